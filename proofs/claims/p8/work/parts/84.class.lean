section bQ5
variable {l : Launch} {dd : bD} {ad : Nat → Nat} {w : Nat → va_E}
theorem b_ix1 {x : Int32} {V : Nat} (hV : V < 2 ^ 30) (h1 : ¬ x < nI 1) (h2 : ¬ nI V < x) : ∃ j, 1 ≤ j ∧ j ≤ V ∧ x = nI j := by
  have e1 : (nI 1).toInt = 1 := by decide
  have e2 : (nI V).toInt = (V : Int) := nI_toInt (by omega)
  rw [Int32.lt_iff_toInt_lt] at h1 h2
  rcases b_rng x V (by omega) with h | ⟨k, hk, rfl⟩
  · omega
  · have e3 : (nI k).toInt = (k : Int) := nI_toInt (by omega)
    exact ⟨k, by omega, hk, rfl⟩
theorem b_ix0 {x : Int32} {V : Nat} (hV : V < 2 ^ 30) (h1 : ¬ x < 0) (h2 : x ≤ nI V) : ∃ j, j ≤ V ∧ x = nI j := by
  have e1 : (0 : Int32).toInt = 0 := by decide
  have e2 : (nI V).toInt = (V : Int) := nI_toInt (by omega)
  rw [Int32.lt_iff_toInt_lt] at h1
  rw [Int32.le_iff_toInt_le] at h2
  rcases b_rng x V (by omega) with h | ⟨k, hk, rfl⟩
  · omega
  · exact ⟨k, hk, rfl⟩
theorem j_B_begin {b q : Int32} (hlt : bOff l) (hI : II dd ad w) : bK l dd y_B_begin 7 102 3 18 [.ref (ad 0), .int b, .int q] ad w 324 (bJ dd ad vI) (bJT dd ad (fun Cn => Cn = xISE ∨ Cn = xIAE ∨ Cn = xUOE)) := by
  obtain ⟨V, hV, h0⟩ := hI.k0 (k := 0) (by decide) (by decide)
  obtain ⟨px, py, pz, p1⟩ := hI.k1 (k := 1) (by decide) (by decide)
  refine bK.start [(0, .ref (ad 0)), (1, .int b), (2, .int q)] (by decide) t2_60 (Nat.le_of_ble_eq_true rfl) rfl (fun p e s m args below meth c A hnm C => ?_)
  refine bv_aload_n 1 rfl C d_B_begin_0 rfl ?_
  refine bv_get 0 0 4 rfl C k_B (by omega) rfl h0 (by decide) t1_146 rfl d_B_begin_1 ?_
  refine bv_call (rest := []) 7 rfl C d_B_begin_4 (j_P_requireOn hlt hI) i_P_requireOn t1_2 (fun H locs ls hP => bs_VN (av := []) 1 C i_P_requireOn n2_61 t2_63 s_18 (by omega) rfl p1 rfl (by decide) rfl rfl d_B_begin_4 H locs ls hP) ⟨by first | decide | omega, by first | decide | omega⟩ (by decide) (by decide) (Nat.le_of_ble_eq_true rfl) (fun v ad1 w1 N1 hpo => ?_) (fun x Cn ad' w' N' hth => ?_)
  · obtain ⟨rfl, rfl, hI1, rfl⟩ := hpo
    obtain ⟨V, hV, h0⟩ := hI1.k0 (k := 0) (by decide) (by decide)
    obtain ⟨so, sb, sk, hS⟩ := hI1.ss
    refine bv_aload_n 8 rfl C d_B_begin_7 rfl ?_
    refine bv_call (rest := []) 11 rfl C d_B_begin_8 (ct_B_leastClosedSession (by decide) h0 hS) i_B_leastClosedSession t1_1 (fun H locs ls hP => bs_V (av := []) 0 C i_B_leastClosedSession t2_135 t2_137 s_20 (by omega) rfl h0 rfl (by decide) rfl rfl d_B_begin_8 H locs ls hP) ⟨by first | decide | omega, by first | decide | omega⟩ (by decide) (by decide) (Nat.le_of_ble_eq_true rfl) (fun v ad1 w2 N1 hpo => ?_) (fun x Cn ad' w' N' hth => hth.elim)
    obtain ⟨rfl, rfl, rfl, hv⟩ := hpo
    rcases hv with ⟨rfl, -⟩ | ⟨i, hi, -, -, rfl⟩
    · refine bv_istore_n 12 rfl C d_B_begin_11 (by decide) ?_
      refine bv_iload_n 13 rfl C d_B_begin_12 rfl ?_
      refine bv_if_ge 26 16 rfl C d_B_begin_13 (by decide) (fun h => absurd h (show ¬ (0 : Int32) ≤ -1 by decide)) (fun h => ?_)
      exact bv_throw (names := ["java/lang/RuntimeException", "java/lang/Exception"]) hlt C d_B_begin_16 d_B_begin_19 d_B_begin_20 d_B_begin_22 d_B_begin_25 t2_139 t2_66 t1_12 (show ("BlobStore", 77, "all sessions are open") ∈ bStr by simp) (by decide) (by decide) ow_B_79 rfl (by first | decide | omega) (by first | decide | omega) (by first | decide | omega) (by first | decide | omega) (by first | decide | omega) (by first | decide | omega) ⟨rfl, rfl, hI1, Or.inl rfl⟩
    · have bad : bV p l e { frames := 7, cells := 3, slots := 18, locals := 102 } s m args below meth c dd A 4 3 18 (bJ dd ad vI) (bJT dd ad (fun Cn => Cn = xISE ∨ Cn = xIAE ∨ Cn = xUOE)) 45 (bO []) [] ad w1 324 1 6 := by
        exact bv_throw (names := ["java/lang/RuntimeException", "java/lang/Exception"]) hlt C d_B_begin_45 d_B_begin_48 d_B_begin_49 d_B_begin_51 d_B_begin_54 t2_142 t2_143 t1_13 (show ("BlobStore", 84, "no such bucket or key") ∈ bStr by simp) (by decide) (by decide) ow_B_86 rfl (by first | decide | omega) (by first | decide | omega) (by first | decide | omega) (by first | decide | omega) (by first | decide | omega) (by first | decide | omega) ⟨rfl, rfl, hI1, Or.inr (Or.inl rfl)⟩
      refine bv_istore_n 12 rfl C d_B_begin_11 (by decide) ?_
      refine bv_iload_n 13 rfl C d_B_begin_12 rfl ?_
      refine bv_if_ge 26 16 rfl C d_B_begin_13 (by decide) (fun h => ?_) (fun h => absurd (nI_pos' (by omega)) h)
      refine bv_iload_n 27 rfl C d_B_begin_26 rfl ?_
      refine bv_if_lt 45 30 rfl C d_B_begin_27 (by decide) (fun x1 => ?_) (fun x1 => ?_)
      · exact bv_wk [] trivial bad
      · refine bv_iload_n 31 rfl C d_B_begin_30 rfl ?_
        refine bv_iconst (v := nI 4) 32 rfl C d_B_begin_31 (by decide) ?_
        refine bv_icmp_ge 45 35 rfl C d_B_begin_32 (by decide) (fun x2 => ?_) (fun x2 => ?_)
        · exact bv_wk [] trivial bad
        · refine bv_iload_n 36 rfl C d_B_begin_35 rfl ?_
          refine bv_if_lt 45 39 rfl C d_B_begin_36 (by decide) (fun x3 => ?_) (fun x3 => ?_)
          · exact bv_wk [] trivial bad
          · refine bv_iload_n 40 rfl C d_B_begin_39 rfl ?_
            refine bv_bipush (v := nI 8) 42 rfl C d_B_begin_40 (by decide) ?_
            refine bv_icmp_lt 55 45 rfl C d_B_begin_42 (by decide) (fun x4 => ?_) (fun x4 => ?_)
            · obtain ⟨px, py, pz, p1⟩ := hI1.k1 (k := 1) (by decide) (by decide)
              refine bv_aload_n 56 rfl C d_B_begin_55 rfl ?_
              refine bv_get 0 0 59 rfl C k_B (by omega) rfl h0 (by decide) t1_146 rfl d_B_begin_56 ?_
              refine bv_call (rest := []) 62 rfl C d_B_begin_59 (j_P_spendWrite hlt hI1) i_P_spendWrite t1_2 (fun H locs ls hP => bs_VN (av := []) 1 C i_P_spendWrite n2_158 t2_160 s_21 (by omega) rfl p1 rfl (by decide) rfl rfl d_B_begin_59 H locs ls hP) ⟨by first | decide | omega, by first | decide | omega⟩ (by decide) (by decide) (Nat.le_of_ble_eq_true rfl) (fun v ad1 w3 N1 hpo => ?_) (fun x Cn ad' w' N' hth => ?_)
              · obtain ⟨rfl, rfl, hI2, rfl⟩ := hpo
                obtain ⟨V, hV, h0⟩ := hI2.k0 (k := 0) (by decide) (by decide)
                obtain ⟨so, sb, sk, ⟨f, hf, hf'⟩, hs⟩ := hI2.ss
                refine bv_aload_n 63 rfl C d_B_begin_62 rfl ?_
                refine bv_get 0 3 66 rfl C k_B (by omega) rfl h0 (by decide) t1_149 rfl d_B_begin_63 ?_
                refine bv_iload_n 67 rfl C d_B_begin_66 rfl ?_
                refine bv_aald 5 5 i 68 rfl C rfl (by omega) rfl hf rfl (by omega) (by decide) d_B_begin_67 (hf' i (by omega)) ?_
                refine bv_iload_n 69 rfl C d_B_begin_68 rfl ?_
                refine bv_iload_n 70 rfl C d_B_begin_69 rfl ?_
                refine bv_call (rest := []) 73 rfl C d_B_begin_70 (j_S_start hI2 hi) i_S_start t1_6 (fun H locs ls hP => bs_VN (av := [.int b, .int q]) (109+14*i) C i_S_start n2_178 t2_180 s_22 (by omega) rfl (hs i hi) rfl (by decide) rfl rfl d_B_begin_70 H locs ls hP) ⟨by first | decide | omega, by first | decide | omega⟩ (by decide) (by decide) (Nat.le_of_ble_eq_true rfl) (fun v ad1 w4 N1 hpo => ?_) (fun x Cn ad' w' N' hth => hth.elim)
                obtain ⟨rfl, rfl, hI3, rfl⟩ := hpo
                refine bv_iload_n 74 rfl C d_B_begin_73 rfl ?_
                exact bv_ireturn C rfl d_B_begin_74 (by decide) (by decide) ⟨rfl, rfl, hI3, _, rfl⟩
              · obtain ⟨rfl, rfl, hI2, rfl⟩ := hth
                exact bt_out C rfl (by decide) (by decide) ⟨rfl, rfl, hI2, Or.inr (Or.inr rfl)⟩
            · exact bv_wk [] trivial bad
  · obtain ⟨rfl, rfl, hI1, rfl⟩ := hth
    exact bt_out C rfl (by decide) (by decide) ⟨rfl, rfl, hI1, Or.inl rfl⟩
theorem j_B_part {x y z : Int32} {a b c0 : Int64} (hlt : bOff l) (hI : II dd ad w) : bK l dd y_B_part 8 135 7 42 [.ref (ad 0), .int x, .int y, .int z, .long a, .long b, .long c0] ad w 324 (bJ dd ad vI) (bJT dd ad (fun Cn => Cn = xISE ∨ Cn = xIAE ∨ Cn = xIOB ∨ Cn = xUOE)) := by
  obtain ⟨V, hV, h0⟩ := hI.k0 (k := 0) (by decide) (by decide)
  obtain ⟨px, py, pz, p1⟩ := hI.k1 (k := 1) (by decide) (by decide)
  refine bK.start [(0, .ref (ad 0)), (1, .int x), (2, .int y), (3, .int z), (4, .long a), (6, .long b), (8, .long c0)] (by decide) t2_189 (Nat.le_of_ble_eq_true rfl) rfl (fun p e s m args below meth c A hnm C => ?_)
  refine bv_aload_n 1 rfl C d_B_part_0 rfl ?_
  refine bv_get 0 0 4 rfl C k_B (by omega) rfl h0 (by decide) t1_146 rfl d_B_part_1 ?_
  refine bv_call (rest := []) 7 rfl C d_B_part_4 (j_P_requireOn hlt hI) i_P_requireOn t1_2 (fun H locs ls hP => bs_VN (av := []) 1 C i_P_requireOn n2_61 t2_63 s_18 (by omega) rfl p1 rfl (by decide) rfl rfl d_B_part_4 H locs ls hP) ⟨by first | decide | omega, by first | decide | omega⟩ (by decide) (by decide) (Nat.le_of_ble_eq_true rfl) (fun v ad1 w1 N1 hpo => ?_) (fun x Cn ad' w' N' hth => ?_)
  · obtain ⟨rfl, rfl, hI1, rfl⟩ := hpo
    obtain ⟨V, hV, h0⟩ := hI1.k0 (k := 0) (by decide) (by decide)
    obtain ⟨so, sb, sk, hS⟩ := hI1.ss
    refine bv_aload_n 8 rfl C d_B_part_7 rfl ?_
    refine bv_iload_n 9 rfl C d_B_part_8 rfl ?_
    refine bv_call (rest := []) 12 rfl C d_B_part_9 (ct_B_openSession hlt (by decide) h0 hS (x := x)) i_B_openSession t1_1 (fun H locs ls hP => bs_V (av := [.int x]) 0 C i_B_openSession t2_190 t2_192 s_23 (by omega) rfl h0 rfl (by decide) rfl rfl d_B_part_9 H locs ls hP) ⟨by first | decide | omega, by first | decide | omega⟩ (by decide) (by decide) (Nat.le_of_ble_eq_true rfl) (fun v ad1 w2 N1 hpo => ?_) (fun x Cn ad' w' N' hth => ?_)
    · obtain ⟨rfl, rfl, rfl, i, hi, -, -, rfl⟩ := hpo
      have bad : bV p l e { frames := 8, cells := 7, slots := 42, locals := 135 } s m args below meth c dd A 13 7 42 (bJ dd ad vI) (bJT dd ad (fun Cn => Cn = xISE ∨ Cn = xIAE ∨ Cn = xIOB ∨ Cn = xUOE)) 35 (bO []) [] ad w1 324 2 12 := by
        exact bv_throw (names := ["java/lang/RuntimeException", "java/lang/Exception"]) hlt C d_B_part_35 d_B_part_38 d_B_part_39 d_B_part_41 d_B_part_44 t2_142 t2_143 t1_13 (show ("BlobStore", 98, "no such part number or count of bytes") ∈ bStr by simp) (by decide) (by decide) ow_B_86 rfl (by first | decide | omega) (by first | decide | omega) (by first | decide | omega) (by first | decide | omega) (by first | decide | omega) (by first | decide | omega) ⟨rfl, rfl, hI1, Or.inr (Or.inl rfl)⟩
      refine bv_astore 14 rfl C d_B_part_12 (by decide) ?_
      refine bv_iload_n 15 rfl C d_B_part_14 rfl ?_
      refine bv_iconst (v := nI 1) 16 rfl C d_B_part_15 (by decide) ?_
      refine bv_icmp_lt 35 19 rfl C d_B_part_16 (by decide) (fun x1 => ?_) (fun x1 => ?_)
      · exact bv_wk [] trivial bad
      · refine bv_iload_n 20 rfl C d_B_part_19 rfl ?_
        refine bv_bipush (v := nI 6) 22 rfl C d_B_part_20 (by decide) ?_
        refine bv_icmp_gt 35 25 rfl C d_B_part_22 (by decide) (fun x2 => ?_) (fun x2 => ?_)
        · exact bv_wk [] trivial bad
        · refine bv_iload_n 26 rfl C d_B_part_25 rfl ?_
          refine bv_if_lt 35 29 rfl C d_B_part_26 (by decide) (fun x3 => ?_) (fun x3 => ?_)
          · exact bv_wk [] trivial bad
          · refine bv_iload_n 30 rfl C d_B_part_29 rfl ?_
            refine bv_bipush (v := nI 24) 32 rfl C d_B_part_30 (by decide) ?_
            refine bv_icmp_le 45 35 rfl C d_B_part_32 (by decide) (fun x4 => ?_) (fun x4 => ?_)
            · obtain ⟨n, hn, rfl⟩ := b_ix0 (by decide) x3 x4
              obtain ⟨j, hj1, hj2, rfl⟩ := b_ix1 (by decide) x1 x2
              refine bv_aload_n 46 rfl C d_B_part_45 rfl ?_
              refine bv_iload_n 47 rfl C d_B_part_46 rfl ?_
              refine bv_lload 49 rfl C d_B_part_47 rfl ?_
              refine bv_lload 51 rfl C d_B_part_49 rfl ?_
              refine bv_lload 53 rfl C d_B_part_51 rfl ?_
              refine bv_call (rest := []) 56 rfl C d_B_part_53 (j_B_cutIntoChunks hI1 hn (x := a) (y := b) (z := c0)) i_B_cutIntoChunks t1_1 (fun H locs ls hP => bs_V (av := [.int (nI n), .long a, .long b, .long c0]) 0 C i_B_cutIntoChunks t2_196 t2_198 s_24 (by omega) rfl h0 rfl (by decide) rfl rfl d_B_part_53 H locs ls hP) ⟨by first | decide | omega, by first | decide | omega⟩ (by decide) (by decide) (Nat.le_of_ble_eq_true rfl) (fun v ad1 w2 N1 hpo => ?_) (fun x Cn ad' w' N' hth => hth.elim)
              obtain ⟨rfl, rfl, hI2, t, ht, rfl⟩ := hpo
              obtain ⟨V, hV, h0⟩ := hI2.k0 (k := 0) (by decide) (by decide)
              refine bv_istore 58 rfl C d_B_part_56 (by decide) ?_
              refine bv_aload_n 59 rfl C d_B_part_58 rfl ?_
              refine bv_iload 61 rfl C d_B_part_59 rfl ?_
              refine bv_call (rest := []) 64 rfl C d_B_part_61 (j_B_planSlots hlt hI2 ht) i_B_planSlots t1_1 (fun H locs ls hP => bs_V (av := [.int (nI t)]) 0 C i_B_planSlots t2_203 t2_205 s_25 (by omega) rfl h0 rfl (by decide) rfl rfl d_B_part_61 H locs ls hP) ⟨by first | decide | omega, by first | decide | omega⟩ (by decide) (by decide) (Nat.le_of_ble_eq_true rfl) (fun v ad1 w3 N1 hpo => ?_) (fun x Cn ad' w' N' hth => ?_)
              · obtain ⟨rfl, rfl, hI3, rfl⟩ := hpo
                obtain ⟨V, hV, h0⟩ := hI3.k0 (k := 0) (by decide) (by decide)
                refine bv_aload_n 65 rfl C d_B_part_64 rfl ?_
                refine bv_iload 67 rfl C d_B_part_65 rfl ?_
                refine bv_call (rest := []) 70 rfl C d_B_part_67 (j_B_writeChunks hlt hI3 ht) i_B_writeChunks t1_1 (fun H locs ls hP => bs_V (av := [.int (nI t)]) 0 C i_B_writeChunks t2_235 t2_237 s_29 (by omega) rfl h0 rfl (by decide) rfl rfl d_B_part_67 H locs ls hP) ⟨by first | decide | omega, by first | decide | omega⟩ (by decide) (by decide) (Nat.le_of_ble_eq_true rfl) (fun v ad1 w4 N1 hpo => ?_) (fun x Cn ad' w' N' hth => ?_)
                · obtain ⟨rfl, rfl, hI4, r, rfl⟩ := hpo
                  obtain ⟨V, hV, h0⟩ := hI4.k0 (k := 0) (by decide) (by decide)
                  obtain ⟨px, py, pz, p1⟩ := hI4.k1 (k := 1) (by decide) (by decide)
                  refine bv_istore 72 rfl C d_B_part_70 (by decide) ?_
                  refine bv_aload_n 73 rfl C d_B_part_72 rfl ?_
                  refine bv_get 0 0 76 rfl C k_B (by omega) rfl h0 (by decide) t1_146 rfl d_B_part_73 ?_
                  refine bv_call (rest := []) 79 rfl C d_B_part_76 (j_P_spendWrite hlt hI4) i_P_spendWrite t1_2 (fun H locs ls hP => bs_VN (av := []) 1 C i_P_spendWrite n2_158 t2_160 s_21 (by omega) rfl p1 rfl (by decide) rfl rfl d_B_part_76 H locs ls hP) ⟨by first | decide | omega, by first | decide | omega⟩ (by decide) (by decide) (Nat.le_of_ble_eq_true rfl) (fun v ad1 w5 N1 hpo => ?_) (fun x Cn ad' w' N' hth => ?_)
                  · obtain ⟨rfl, rfl, hI5, rfl⟩ := hpo
                    obtain ⟨V, hV, h0⟩ := hI5.k0 (k := 0) (by decide) (by decide)
                    obtain ⟨o, sb, sq, s1⟩ := hI5.k15 (k := 109 + 14 * i) (by omega) (kd_s hi)
                    obtain ⟨f, s2, hf⟩ := hI5.k16 (k := 109 + 14 * i + 1) (by omega) (kd_s1 hi)
                    have hk := bRw.p hi (show j - 1 < 6 by omega)
                    obtain ⟨n0, f0, hn0, g1, g2, gf⟩ := hk.at hI5
                    refine bv_aload 81 rfl C d_B_part_79 rfl ?_
                    refine bv_getN (109+14*i) 3 84 rfl C k_S (by omega) rfl s1 (by decide) n1_112 rfl d_B_part_81 ?_
                    refine bv_iload_n 85 rfl C d_B_part_84 rfl ?_
                    refine bv_iconst (v := nI 1) 86 rfl C d_B_part_85 (by decide) ?_
                    refine bv_isub 87 rfl C d_B_part_86 ?_
                    refine bv_seti (nI (j-1)) (pk_sub hj1) ?_
                    refine bv_aald 4 (109+14*i+1) (j-1) 88 rfl C rfl (by omega) rfl s2 rfl (by omega) (by decide) d_B_part_87 (hf (j-1) (by omega)) ?_
                    refine bv_aload_n 89 rfl C d_B_part_88 rfl ?_
                    refine bv_get 0 7 92 rfl C k_B (by omega) rfl h0 (by decide) t1_153 rfl d_B_part_89 ?_
                    refine bv_call (rest := []) 95 rfl C d_B_part_92 (j_R_copyFrom hI5 hk bRw.n) i_R_copyFrom t1_4 (fun H locs ls hP => bs_VN (av := [.ref (ad 8)]) (109+14*i+2+2*(j-1)) C i_R_copyFrom n3_6 t3_8 s_31 (by omega) rfl g1 rfl (by decide) rfl rfl d_B_part_92 H locs ls hP) ⟨by first | decide | omega, by first | decide | omega⟩ (by decide) (by decide) (Nat.le_of_ble_eq_true rfl) (fun v ad1 w6 N1 hpo => ?_) (fun x Cn ad' w' N' hth => hth.elim)
                    obtain ⟨rfl, rfl, hI6, rfl⟩ := hpo
                    refine bv_iload 97 rfl C d_B_part_95 rfl ?_
                    exact bv_ireturn C rfl d_B_part_97 (by decide) (by decide) ⟨rfl, rfl, hI6, _, rfl⟩
                  · obtain ⟨rfl, rfl, hI5, rfl⟩ := hth
                    exact bt_out C rfl (by decide) (by decide) ⟨rfl, rfl, hI5, Or.inr (Or.inr (Or.inr rfl))⟩
                · obtain ⟨rfl, rfl, hI4, rfl⟩ := hth
                  exact bt_out C rfl (by decide) (by decide) ⟨rfl, rfl, hI4, Or.inr (Or.inr (Or.inr rfl))⟩
              · obtain ⟨rfl, rfl, hI3, rfl⟩ := hth
                exact bt_out C rfl (by decide) (by decide) ⟨rfl, rfl, hI3, Or.inr (Or.inr (Or.inl rfl))⟩
            · exact bv_wk [] trivial bad
    · obtain ⟨rfl, rfl, rfl, rfl, -⟩ := hth
      exact bt_out C rfl (by decide) (by decide) ⟨rfl, rfl, hI1, Or.inr (Or.inl rfl)⟩
  · obtain ⟨rfl, rfl, hI1, rfl⟩ := hth
    exact bt_out C rfl (by decide) (by decide) ⟨rfl, rfl, hI1, Or.inl rfl⟩
theorem j_B_complete {x : Int32} (hlt : bOff l) (hI : II dd ad w) : bK l dd y_B_complete 7 103 4 24 [.ref (ad 0), .int x] ad w 324 (bJ dd ad vI) (bJT dd ad (fun Cn => Cn = xISE ∨ Cn = xIAE ∨ Cn = xUOE)) := by
  obtain ⟨V, hV, h0⟩ := hI.k0 (k := 0) (by decide) (by decide)
  obtain ⟨px, py, pz, p1⟩ := hI.k1 (k := 1) (by decide) (by decide)
  refine bK.start [(0, .ref (ad 0)), (1, .int x)] (by decide) t3_21 (Nat.le_of_ble_eq_true rfl) rfl (fun p e s m args below meth c A hnm C => ?_)
  refine bv_aload_n 1 rfl C d_B_complete_0 rfl ?_
  refine bv_get 0 0 4 rfl C k_B (by omega) rfl h0 (by decide) t1_146 rfl d_B_complete_1 ?_
  refine bv_call (rest := []) 7 rfl C d_B_complete_4 (j_P_requireOn hlt hI) i_P_requireOn t1_2 (fun H locs ls hP => bs_VN (av := []) 1 C i_P_requireOn n2_61 t2_63 s_18 (by omega) rfl p1 rfl (by decide) rfl rfl d_B_complete_4 H locs ls hP) ⟨by first | decide | omega, by first | decide | omega⟩ (by decide) (by decide) (Nat.le_of_ble_eq_true rfl) (fun v ad1 w1 N1 hpo => ?_) (fun x Cn ad' w' N' hth => ?_)
  · obtain ⟨rfl, rfl, hI1, rfl⟩ := hpo
    obtain ⟨V, hV, h0⟩ := hI1.k0 (k := 0) (by decide) (by decide)
    obtain ⟨so, sb, sk, hS⟩ := hI1.ss
    refine bv_aload_n 8 rfl C d_B_complete_7 rfl ?_
    refine bv_get 0 5 11 rfl C k_B (by omega) rfl h0 (by decide) t1_151 rfl d_B_complete_8 ?_
    refine bv_bipush (v := nI 40) 13 rfl C d_B_complete_11 (by decide) ?_
    refine bv_icmp_lt 26 16 rfl C d_B_complete_13 (by decide) (fun x1 => ?_) (fun x1 => ?_)
    · have hV1 : V < 40 := Nat.lt_of_not_le (fun q => nI_nlt (a := V) (b := 40) q (by omega) x1)
      refine bv_aload_n 27 rfl C d_B_complete_26 rfl ?_
      refine bv_iload_n 28 rfl C d_B_complete_27 rfl ?_
      refine bv_call (rest := []) 31 rfl C d_B_complete_28 (ct_B_openSession hlt (by decide) h0 hS (x := x)) i_B_openSession t1_1 (fun H locs ls hP => bs_V (av := [.int x]) 0 C i_B_openSession t2_190 t2_192 s_23 (by omega) rfl h0 rfl (by decide) rfl rfl d_B_complete_28 H locs ls hP) ⟨by first | decide | omega, by first | decide | omega⟩ (by decide) (by decide) (Nat.le_of_ble_eq_true rfl) (fun v ad1 w2 N1 hpo => ?_) (fun x Cn ad' w' N' hth => ?_)
      · obtain ⟨rfl, rfl, rfl, i, hi, -, -, rfl⟩ := hpo
        obtain ⟨px, py, pz, p1⟩ := hI1.k1 (k := 1) (by decide) (by decide)
        refine bv_astore_n 32 rfl C d_B_complete_31 (by decide) ?_
        refine bv_aload_n 33 rfl C d_B_complete_32 rfl ?_
        refine bv_get 0 0 36 rfl C k_B (by omega) rfl h0 (by decide) t1_146 rfl d_B_complete_33 ?_
        refine bv_call (rest := []) 39 rfl C d_B_complete_36 (ct_P_spendWrite hlt (k := 1) (by decide) p1) i_P_spendWrite t1_2 (fun H locs ls hP => bs_VN (av := []) 1 C i_P_spendWrite n2_158 t2_160 s_21 (by omega) rfl p1 rfl (by decide) rfl rfl d_B_complete_36 H locs ls hP) ⟨by first | decide | omega, by first | decide | omega⟩ (by decide) (by decide) (Nat.le_of_ble_eq_true rfl) (fun v ad1 w3 N1 hpo => ?_) (fun x Cn ad' w' N' hth => ?_)
        · obtain ⟨rfl, rfl, rfl, -, rfl⟩ := hpo
          have hI2 := hI1.up (k := 1) (e := .inr (1, [.int (px + nI 1), .int (if 0 < py then py - nI 1 else py), .int pz])) ((sh_1 (by decide)).mpr ⟨_, _, _, rfl⟩)
          have h02 : (va_up w1 1 (.inr (1, [.int (px + nI 1), .int (if 0 < py then py - nI 1 else py), .int pz]))) 0 = oB ad (nI V) := (va_up_ne _ _ (by decide)).trans h0
          generalize va_up w1 1 (.inr (1, [.int (px + nI 1), .int (if 0 < py then py - nI 1 else py), .int pz])) = w3 at hI2 h02 ⊢
          obtain ⟨f, hf, hf'⟩ := hI2.k6 (k := 6) (by decide) (by decide)
          obtain ⟨vl, vb, vk, v1⟩ := hI2.k19 (k := 179 + 3 * V) (by omega) (kd_v hV1)
          refine bv_aload_n 40 rfl C d_B_complete_39 rfl ?_
          refine bv_get 0 4 43 rfl C k_B (by omega) rfl h02 (by decide) t1_150 rfl d_B_complete_40 ?_
          refine bv_aload_n 44 rfl C d_B_complete_43 rfl ?_
          refine bv_get 0 5 47 rfl C k_B (by omega) rfl h02 (by decide) t1_151 rfl d_B_complete_44 ?_
          refine bv_aald 6 6 V 48 rfl C rfl (by omega) rfl hf rfl hV1 (by decide) d_B_complete_47 (hf' V hV1) ?_
          refine bv_aload_n 49 rfl C d_B_complete_48 rfl ?_
          refine bv_call (rest := []) 52 rfl C d_B_complete_49 (j_V_comeFrom0 hI2 h02 hV1 hi) i_V_comeFrom t1_7 (fun H locs ls hP => bs_VN (av := [.ref (ad (109+14*i))]) (179+3*V) C i_V_comeFrom n3_23 t3_25 s_33 (by omega) rfl v1 rfl (by decide) rfl rfl d_B_complete_49 H locs ls hP) ⟨by first | decide | omega, by first | decide | omega⟩ (by decide) (by decide) (Nat.le_of_ble_eq_true rfl) (fun v ad1 w4 N1 hpo => ?_) (fun x Cn ad' w' N' hth => hth.elim)
          obtain ⟨rfl, rfl, hI3, h03, rfl⟩ := hpo
          refine bv_aload_n 53 rfl C d_B_complete_52 rfl ?_
          refine bv_dup 54 rfl C d_B_complete_53 rfl ?_
          refine bv_get 0 5 57 rfl C k_B (by omega) rfl h03 (by decide) t1_151 rfl d_B_complete_54 ?_
          refine bv_iconst (v := nI 1) 58 rfl C d_B_complete_57 (by decide) ?_
          refine bv_iadd 59 rfl C d_B_complete_58 ?_
          refine bv_seti (nI (V+1)) (nI_add V 1) ?_
          refine bv_put 0 5 62 rfl C k_B (by omega) rfl h03 (by decide) t1_151 rfl rfl rfl (Nat.le_of_ble_eq_true rfl) d_B_complete_59 ?_
          refine bv_any (hI3.up ((sh_0 (by decide)).mpr ⟨V + 1, hV1, rfl⟩)) (fun w5 hI4 => ?_)
          obtain ⟨o, sb, sq, s1⟩ := hI4.k15 (k := 109 + 14 * i) (by omega) (kd_s hi)
          refine bv_aload_n 63 rfl C d_B_complete_62 rfl ?_
          refine bv_iconst (v := nI 0) 64 rfl C d_B_complete_63 (by decide) ?_
          refine bv_putN (109+14*i) 0 67 rfl C k_S (by omega) rfl s1 (by decide) n1_105 rfl rfl rfl (Nat.le_of_ble_eq_true rfl) d_B_complete_64 ?_
          refine bv_any (hI4.up ((sh_15 (kd_s hi)).mpr ⟨_, _, _, rfl⟩)) (fun w6 hI5 => ?_)
          obtain ⟨V, hV, h0⟩ := hI5.k0 (k := 0) (by decide) (by decide)
          refine bv_aload_n 68 rfl C d_B_complete_67 rfl ?_
          refine bv_get 0 5 71 rfl C k_B (by omega) rfl h0 (by decide) t1_151 rfl d_B_complete_68 ?_
          exact bv_ireturn C rfl d_B_complete_71 (by decide) (by decide) ⟨rfl, rfl, hI5, _, rfl⟩
        · obtain ⟨rfl, rfl, rfl, -, rfl⟩ := hth
          exact bt_out C rfl (by decide) (by decide) ⟨rfl, rfl, hI1.up ((sh_1 (by decide)).mpr ⟨_, _, _, rfl⟩), Or.inr (Or.inr rfl)⟩
      · obtain ⟨rfl, rfl, rfl, rfl, -⟩ := hth
        exact bt_out C rfl (by decide) (by decide) ⟨rfl, rfl, hI1, Or.inr (Or.inl rfl)⟩
    · exact bv_throw (names := ["java/lang/RuntimeException", "java/lang/Exception"]) hlt C d_B_complete_16 d_B_complete_19 d_B_complete_20 d_B_complete_22 d_B_complete_25 t2_139 t2_66 t1_12 (show ("BlobStore", 119, "all versions have been given") ∈ bStr by simp) (by decide) (by decide) ow_B_79 rfl (by first | decide | omega) (by first | decide | omega) (by first | decide | omega) (by first | decide | omega) (by first | decide | omega) (by first | decide | omega) ⟨rfl, rfl, hI1, Or.inl rfl⟩
  · obtain ⟨rfl, rfl, hI1, rfl⟩ := hth
    exact bt_out C rfl (by decide) (by decide) ⟨rfl, rfl, hI1, Or.inl rfl⟩
theorem j_B_abort {x : Int32} (hlt : bOff l) (hI : II dd ad w) : bK l dd y_B_abort 7 103 3 18 [.ref (ad 0), .int x] ad w 324 (bJ dd ad (fun v => v = none)) (bJT dd ad (fun Cn => Cn = xISE ∨ Cn = xIAE ∨ Cn = xUOE)) := by
  obtain ⟨V, hV, h0⟩ := hI.k0 (k := 0) (by decide) (by decide)
  obtain ⟨px, py, pz, p1⟩ := hI.k1 (k := 1) (by decide) (by decide)
  refine bK.start [(0, .ref (ad 0)), (1, .int x)] (by decide) t3_34 (Nat.le_of_ble_eq_true rfl) rfl (fun p e s m args below meth c A hnm C => ?_)
  refine bv_aload_n 1 rfl C d_B_abort_0 rfl ?_
  refine bv_get 0 0 4 rfl C k_B (by omega) rfl h0 (by decide) t1_146 rfl d_B_abort_1 ?_
  refine bv_call (rest := []) 7 rfl C d_B_abort_4 (j_P_requireOn hlt hI) i_P_requireOn t1_2 (fun H locs ls hP => bs_VN (av := []) 1 C i_P_requireOn n2_61 t2_63 s_18 (by omega) rfl p1 rfl (by decide) rfl rfl d_B_abort_4 H locs ls hP) ⟨by first | decide | omega, by first | decide | omega⟩ (by decide) (by decide) (Nat.le_of_ble_eq_true rfl) (fun v ad1 w1 N1 hpo => ?_) (fun x Cn ad' w' N' hth => ?_)
  · obtain ⟨rfl, rfl, hI1, rfl⟩ := hpo
    obtain ⟨V, hV, h0⟩ := hI1.k0 (k := 0) (by decide) (by decide)
    obtain ⟨so, sb, sk, hS⟩ := hI1.ss
    refine bv_aload_n 8 rfl C d_B_abort_7 rfl ?_
    refine bv_iload_n 9 rfl C d_B_abort_8 rfl ?_
    refine bv_call (rest := []) 12 rfl C d_B_abort_9 (ct_B_openSession hlt (by decide) h0 hS (x := x)) i_B_openSession t1_1 (fun H locs ls hP => bs_V (av := [.int x]) 0 C i_B_openSession t2_190 t2_192 s_23 (by omega) rfl h0 rfl (by decide) rfl rfl d_B_abort_9 H locs ls hP) ⟨by first | decide | omega, by first | decide | omega⟩ (by decide) (by decide) (Nat.le_of_ble_eq_true rfl) (fun v ad1 w2 N1 hpo => ?_) (fun x Cn ad' w' N' hth => ?_)
    · obtain ⟨rfl, rfl, rfl, i, hi, -, -, rfl⟩ := hpo
      obtain ⟨px, py, pz, p1⟩ := hI1.k1 (k := 1) (by decide) (by decide)
      refine bv_astore_n 13 rfl C d_B_abort_12 (by decide) ?_
      refine bv_aload_n 14 rfl C d_B_abort_13 rfl ?_
      refine bv_get 0 0 17 rfl C k_B (by omega) rfl h0 (by decide) t1_146 rfl d_B_abort_14 ?_
      refine bv_call (rest := []) 20 rfl C d_B_abort_17 (j_P_spendWrite hlt hI1) i_P_spendWrite t1_2 (fun H locs ls hP => bs_VN (av := []) 1 C i_P_spendWrite n2_158 t2_160 s_21 (by omega) rfl p1 rfl (by decide) rfl rfl d_B_abort_17 H locs ls hP) ⟨by first | decide | omega, by first | decide | omega⟩ (by decide) (by decide) (Nat.le_of_ble_eq_true rfl) (fun v ad1 w3 N1 hpo => ?_) (fun x Cn ad' w' N' hth => ?_)
      · obtain ⟨rfl, rfl, hI2, rfl⟩ := hpo
        obtain ⟨o, sb, sq, s1⟩ := hI2.k15 (k := 109 + 14 * i) (by omega) (kd_s hi)
        refine bv_aload_n 21 rfl C d_B_abort_20 rfl ?_
        refine bv_iconst (v := nI 0) 22 rfl C d_B_abort_21 (by decide) ?_
        refine bv_putN (109+14*i) 0 25 rfl C k_S (by omega) rfl s1 (by decide) n1_105 rfl rfl rfl (Nat.le_of_ble_eq_true rfl) d_B_abort_22 ?_
        exact bv_return C rfl d_B_abort_25 (by decide) (by decide) ⟨rfl, rfl, hI2.up ((sh_15 (kd_s hi)).mpr ⟨_, _, _, rfl⟩), rfl⟩
      · obtain ⟨rfl, rfl, hI2, rfl⟩ := hth
        exact bt_out C rfl (by decide) (by decide) ⟨rfl, rfl, hI2, Or.inr (Or.inr rfl)⟩
    · obtain ⟨rfl, rfl, rfl, rfl, -⟩ := hth
      exact bt_out C rfl (by decide) (by decide) ⟨rfl, rfl, hI1, Or.inr (Or.inl rfl)⟩
  · obtain ⟨rfl, rfl, hI1, rfl⟩ := hth
    exact bt_out C rfl (by decide) (by decide) ⟨rfl, rfl, hI1, Or.inl rfl⟩
theorem j_B_livingVersion {x : Int32} (hI : II dd ad w) : bK l dd y_B_livingVersion 0 0 0 0 [.ref (ad 0), .int x] ad w 324 (bSame ad w 324 (fun v => v = some .null ∨ ∃ i, i < 40 ∧ v = some (.ref (ad (179 + 3 * i))))) (bNo) := by
  obtain ⟨V, hV, h0⟩ := hI.k0 (k := 0) (by decide) (by decide)
  obtain ⟨f, hf, hf'⟩ := hI.k6 (k := 6) (by decide) (by decide)
  refine bK.start [(0, .ref (ad 0)), (1, .int x)] (by decide) t1_196 (Nat.le_of_ble_eq_true rfl) rfl (fun p e s m args below meth c A hnm C => ?_)
  have bad : bV p l e { frames := 0, cells := 0, slots := 0, locals := 0 } s m args below meth c dd A 2 0 0 (bSame ad w 324 (fun v => v = some .null ∨ ∃ i, i < 40 ∧ v = some (.ref (ad (179 + 3 * i))))) (bNo) 27 (bO []) [] ad w 324 0 0 := by
    refine bv_null 28 rfl C d_B_livingVersion_27 ?_
    exact bv_areturn C rfl (Or.inl rfl) d_B_livingVersion_28 (by decide) (by decide) ⟨rfl, rfl, rfl, Or.inl rfl⟩
  refine bv_iload_n 1 rfl C d_B_livingVersion_0 rfl ?_
  refine bv_iconst (v := nI 1) 2 rfl C d_B_livingVersion_1 (by decide) ?_
  refine bv_icmp_lt 27 5 rfl C d_B_livingVersion_2 (by decide) (fun x1 => ?_) (fun x1 => ?_)
  · exact bv_wk [] trivial bad
  · refine bv_iload_n 6 rfl C d_B_livingVersion_5 rfl ?_
    refine bv_aload_n 7 rfl C d_B_livingVersion_6 rfl ?_
    refine bv_get 0 5 10 rfl C k_B (by omega) rfl h0 (by decide) t1_151 rfl d_B_livingVersion_7 ?_
    refine bv_icmp_gt 27 13 rfl C d_B_livingVersion_10 (by decide) (fun x2 => ?_) (fun x2 => ?_)
    · exact bv_wk [] trivial bad
    · obtain ⟨j, hj1, hj2, rfl⟩ := b_ix1 (by omega) x1 x2
      obtain ⟨vl, vb, vk, v1⟩ := hI.k19 (k := 179 + 3 * (j - 1)) (by omega) (kd_v (by omega))
      refine bv_aload_n 14 rfl C d_B_livingVersion_13 rfl ?_
      refine bv_get 0 4 17 rfl C k_B (by omega) rfl h0 (by decide) t1_150 rfl d_B_livingVersion_14 ?_
      refine bv_iload_n 18 rfl C d_B_livingVersion_17 rfl ?_
      refine bv_iconst (v := nI 1) 19 rfl C d_B_livingVersion_18 (by decide) ?_
      refine bv_isub 20 rfl C d_B_livingVersion_19 ?_
      refine bv_seti (nI (j-1)) (pk_sub hj1) ?_
      refine bv_aald 6 6 (j-1) 21 rfl C rfl (by omega) rfl hf rfl (by omega) (by decide) d_B_livingVersion_20 (hf' (j-1) (by omega)) ?_
      refine bv_getN (179+3*(j-1)) 0 24 rfl C k_V (by omega) rfl v1 (by decide) n1_130 rfl d_B_livingVersion_21 ?_
      refine bv_if_ne 29 27 rfl C d_B_livingVersion_24 (by decide) (fun x3 => ?_) (fun x3 => ?_)
      · refine bv_aload_n 30 rfl C d_B_livingVersion_29 rfl ?_
        refine bv_get 0 4 33 rfl C k_B (by omega) rfl h0 (by decide) t1_150 rfl d_B_livingVersion_30 ?_
        refine bv_iload_n 34 rfl C d_B_livingVersion_33 rfl ?_
        refine bv_iconst (v := nI 1) 35 rfl C d_B_livingVersion_34 (by decide) ?_
        refine bv_isub 36 rfl C d_B_livingVersion_35 ?_
        refine bv_seti (nI (j-1)) (pk_sub hj1) ?_
        refine bv_aald 6 6 (j-1) 37 rfl C rfl (by omega) rfl hf rfl (by omega) (by decide) d_B_livingVersion_36 (hf' (j-1) (by omega)) ?_
        exact bv_areturn C rfl (Or.inr ⟨_, rfl⟩) d_B_livingVersion_37 (by decide) (by decide) ⟨rfl, rfl, rfl, Or.inr ⟨j - 1, by omega, rfl⟩⟩
      · exact bv_wk [] trivial bad
theorem j_B_delete {x : Int32} (hlt : bOff l) (hI : II dd ad w) : bK l dd y_B_delete 7 102 2 12 [.ref (ad 0), .int x] ad w 324 (bJ dd ad vI) (bJT dd ad (fun Cn => Cn = xISE ∨ Cn = xUOE)) := by
  obtain ⟨V, hV, h0⟩ := hI.k0 (k := 0) (by decide) (by decide)
  obtain ⟨px, py, pz, p1⟩ := hI.k1 (k := 1) (by decide) (by decide)
  refine bK.start [(0, .ref (ad 0)), (1, .int x)] (by decide) t3_41 (Nat.le_of_ble_eq_true rfl) rfl (fun p e s m args below meth c A hnm C => ?_)
  refine bv_aload_n 1 rfl C d_B_delete_0 rfl ?_
  refine bv_get 0 0 4 rfl C k_B (by omega) rfl h0 (by decide) t1_146 rfl d_B_delete_1 ?_
  refine bv_call (rest := []) 7 rfl C d_B_delete_4 (j_P_requireOn hlt hI) i_P_requireOn t1_2 (fun H locs ls hP => bs_VN (av := []) 1 C i_P_requireOn n2_61 t2_63 s_18 (by omega) rfl p1 rfl (by decide) rfl rfl d_B_delete_4 H locs ls hP) ⟨by first | decide | omega, by first | decide | omega⟩ (by decide) (by decide) (Nat.le_of_ble_eq_true rfl) (fun v ad1 w1 N1 hpo => ?_) (fun x Cn ad' w' N' hth => ?_)
  · obtain ⟨rfl, rfl, hI1, rfl⟩ := hpo
    obtain ⟨V, hV, h0⟩ := hI1.k0 (k := 0) (by decide) (by decide)
    refine bv_aload_n 8 rfl C d_B_delete_7 rfl ?_
    refine bv_iload_n 9 rfl C d_B_delete_8 rfl ?_
    refine bv_call (rest := []) 12 rfl C d_B_delete_9 (j_B_livingVersion hI1) i_B_livingVersion t1_1 (fun H locs ls hP => bs_V (av := [.int x]) 0 C i_B_livingVersion t1_193 t1_195 s_1 (by omega) rfl h0 rfl (by decide) rfl rfl d_B_delete_9 H locs ls hP) ⟨by first | decide | omega, by first | decide | omega⟩ (by decide) (by decide) (Nat.le_of_ble_eq_true rfl) (fun v ad1 w2 N1 hpo => ?_) (fun x Cn ad' w' N' hth => hth.elim)
    obtain ⟨rfl, rfl, rfl, hv⟩ := hpo
    rcases hv with rfl | ⟨i, hi, rfl⟩
    · refine bv_astore_nN 13 rfl C d_B_delete_12 (by decide) ?_
      refine bv_aload_nN 14 rfl C d_B_delete_13 rfl ?_
      refine bv_ifnonnullN 17 rfl C d_B_delete_14 ?_
      refine bv_iconst (v := nI 0) 18 rfl C d_B_delete_17 (by decide) ?_
      exact bv_zreturn C rfl (Or.inl rfl) d_B_delete_18 (by decide) (by decide) ⟨rfl, rfl, hI1, _, rfl⟩
    · obtain ⟨px, py, pz, p1⟩ := hI1.k1 (k := 1) (by decide) (by decide)
      refine bv_astore_n 13 rfl C d_B_delete_12 (by decide) ?_
      refine bv_aload_n 14 rfl C d_B_delete_13 rfl ?_
      refine bv_ifnonnull 19 C d_B_delete_14 (by decide) ?_
      refine bv_aload_n 20 rfl C d_B_delete_19 rfl ?_
      refine bv_get 0 0 23 rfl C k_B (by omega) rfl h0 (by decide) t1_146 rfl d_B_delete_20 ?_
      refine bv_call (rest := []) 26 rfl C d_B_delete_23 (j_P_spendWrite hlt hI1) i_P_spendWrite t1_2 (fun H locs ls hP => bs_VN (av := []) 1 C i_P_spendWrite n2_158 t2_160 s_21 (by omega) rfl p1 rfl (by decide) rfl rfl d_B_delete_23 H locs ls hP) ⟨by first | decide | omega, by first | decide | omega⟩ (by decide) (by decide) (Nat.le_of_ble_eq_true rfl) (fun v ad1 w3 N1 hpo => ?_) (fun x Cn ad' w' N' hth => ?_)
      · obtain ⟨rfl, rfl, hI2, rfl⟩ := hpo
        obtain ⟨vl, vb, vk, v1⟩ := hI2.k19 (k := 179 + 3 * i) (by omega) (kd_v hi)
        refine bv_aload_n 27 rfl C d_B_delete_26 rfl ?_
        refine bv_iconst (v := nI 0) 28 rfl C d_B_delete_27 (by decide) ?_
        refine bv_putN (179+3*i) 0 31 rfl C k_V (by omega) rfl v1 (by decide) n1_130 rfl rfl rfl (Nat.le_of_ble_eq_true rfl) d_B_delete_28 ?_
        refine bv_iconst (v := nI 1) 32 rfl C d_B_delete_31 (by decide) ?_
        exact bv_zreturn C rfl (Or.inr rfl) d_B_delete_32 (by decide) (by decide) ⟨rfl, rfl, hI2.up ((sh_19 (kd_v hi)).mpr ⟨_, _, _, rfl⟩), _, rfl⟩
      · obtain ⟨rfl, rfl, hI2, rfl⟩ := hth
        exact bt_out C rfl (by decide) (by decide) ⟨rfl, rfl, hI2, Or.inr rfl⟩
  · obtain ⟨rfl, rfl, hI1, rfl⟩ := hth
    exact bt_out C rfl (by decide) (by decide) ⟨rfl, rfl, hI1, Or.inl rfl⟩
end bQ5

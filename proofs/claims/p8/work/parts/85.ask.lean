section bQ6
variable {l : Launch} {dd : bD} {ad : Nat → Nat} {w : Nat → va_E}
theorem j_B_countNeeds (hI : II dd ad w) : bK l dd y_B_countNeeds 2 44 0 0 [.ref (ad 0)] ad w 324 (bJ dd ad (fun v => v = none)) (bNo) := by
  refine bK.start [(0, .ref (ad 0))] (by decide) t1_220 (Nat.le_of_ble_eq_true rfl) rfl (fun p e s m args below meth c A hnm C => ?_)
  have loopV : ∀ (d i : Nat) (w : Nat → va_E), i + d = 40 → II dd ad w → bV p l e { frames := 2, cells := 0, slots := 0, locals := 44 } s m args below meth c dd A 2 0 0 (bJ dd ad (fun v => v = none)) (bNo) 48 (bO [(0, .ref (ad 0)), (1, .int (nI i))]) [] ad w 324 0 0 := by
    intro d
    induction d with
    | zero =>
      intro i w hi hI
      obtain ⟨V, hV, h0⟩ := hI.k0 (k := 0) (by decide) (by decide)
      refine bv_iload_n 49 rfl C d_B_countNeeds_48 rfl ?_
      refine bv_aload_n 50 rfl C d_B_countNeeds_49 rfl ?_
      refine bv_get 0 5 53 rfl C k_B (by omega) rfl h0 (by decide) t1_151 rfl d_B_countNeeds_50 ?_
      refine bv_icmp_ge 90 56 rfl C d_B_countNeeds_53 (by decide) (fun h => ?_) (fun h => absurd (nI_le (show V ≤ i by omega) (by omega)) h)
      exact bv_return C rfl d_B_countNeeds_90 (Nat.le_refl _) (Nat.le_refl _) ⟨rfl, rfl, hI, rfl⟩
    | succ d ih =>
      intro i w hi hI
      obtain ⟨V, hV, h0⟩ := hI.k0 (k := 0) (by decide) (by decide)
      obtain ⟨f, hf, hf'⟩ := hI.k6 (k := 6) (by decide) (by decide)
      obtain ⟨vl, vb, vk, v1⟩ := hI.k19 (k := 179 + 3 * i) (by omega) (kd_v (by omega))
      have hk := bRw.v (show i < 40 by omega)
      obtain ⟨n0, f0, hn0, g1, g2, gf⟩ := hk.at hI
      refine bv_iload_n 49 rfl C d_B_countNeeds_48 rfl ?_
      refine bv_aload_n 50 rfl C d_B_countNeeds_49 rfl ?_
      refine bv_get 0 5 53 rfl C k_B (by omega) rfl h0 (by decide) t1_151 rfl d_B_countNeeds_50 ?_
      refine bv_icmp_ge 90 56 rfl C d_B_countNeeds_53 (by decide) (fun x1 => ?_) (fun x1 => ?_)
      · exact bv_return C rfl d_B_countNeeds_90 (Nat.le_refl _) (Nat.le_refl _) ⟨rfl, rfl, hI, rfl⟩
      · refine bv_aload_n 57 rfl C d_B_countNeeds_56 rfl ?_
        refine bv_get 0 4 60 rfl C k_B (by omega) rfl h0 (by decide) t1_150 rfl d_B_countNeeds_57 ?_
        refine bv_iload_n 61 rfl C d_B_countNeeds_60 rfl ?_
        refine bv_aald 6 6 i 62 rfl C rfl (by omega) rfl hf rfl (by omega) (by decide) d_B_countNeeds_61 (hf' i (by omega)) ?_
        refine bv_getN (179+3*i) 0 65 rfl C k_V (by omega) rfl v1 (by decide) n1_130 rfl d_B_countNeeds_62 ?_
        refine bv_if_eq 84 68 rfl C d_B_countNeeds_65 (by decide) (fun x2 => ?_) (fun x2 => ?_)
        · refine bv_iinc 87 rfl C d_B_countNeeds_84 rfl (by first | exact b_inc _ | rfl) (by decide) ?_
          refine bv_goto 48 C d_B_countNeeds_87 (by decide) ?_
          refine bv_wk [(0, .ref (ad 0)), (1, .int (nI (i + 1)))] ⟨rfl, rfl, trivial⟩ ?_
          exact ih (i + 1) w (by omega) hI
        · refine bv_aload_n 69 rfl C d_B_countNeeds_68 rfl ?_
          refine bv_get 0 4 72 rfl C k_B (by omega) rfl h0 (by decide) t1_150 rfl d_B_countNeeds_69 ?_
          refine bv_iload_n 73 rfl C d_B_countNeeds_72 rfl ?_
          refine bv_aald 6 6 i 74 rfl C rfl (by omega) rfl hf rfl (by omega) (by decide) d_B_countNeeds_73 (hf' i (by omega)) ?_
          refine bv_getN (179+3*i) 3 77 rfl C k_V (by omega) rfl v1 (by decide) n1_136 rfl d_B_countNeeds_74 ?_
          refine bv_aload_n 78 rfl C d_B_countNeeds_77 rfl ?_
          refine bv_get 0 9 81 rfl C k_B (by omega) rfl h0 (by decide) t1_155 rfl d_B_countNeeds_78 ?_
          refine bv_call (rest := []) 84 rfl C d_B_countNeeds_81 (j_R_countInto hI hk) i_R_countInto t1_4 (fun H locs ls hP => bs_VN (av := [.ref (ad 12)]) (179+3*i+1) C i_R_countInto n1_232 t1_230 s_7 (by omega) rfl g1 rfl (by decide) rfl rfl d_B_countNeeds_81 H locs ls hP) ⟨by first | decide | omega, by first | decide | omega⟩ (by decide) (by decide) (Nat.le_of_ble_eq_true rfl) (fun v ad1 w1 N1 hpo => ?_) (fun x Cn ad' w' N' hth => hth.elim)
          obtain ⟨rfl, rfl, hI1, rfl⟩ := hpo
          refine bv_iinc 87 rfl C d_B_countNeeds_84 rfl (by first | exact b_inc _ | rfl) (by decide) ?_
          refine bv_goto 48 C d_B_countNeeds_87 (by decide) ?_
          refine bv_wk [(0, .ref (ad 0)), (1, .int (nI (i + 1)))] ⟨rfl, rfl, trivial⟩ ?_
          exact ih (i + 1) w1 (by omega) hI1
  have loopS : ∀ (d i : Nat) (w : Nat → va_E), i + d = 5 → II dd ad w → bV p l e { frames := 2, cells := 0, slots := 0, locals := 44 } s m args below meth c dd A 2 0 0 (bJ dd ad (fun v => v = none)) (bNo) 10 (bO [(0, .ref (ad 0)), (1, .int (nI i))]) [] ad w 324 0 0 := by
    intro d
    induction d with
    | zero =>
      intro i w hi hI
      obtain rfl : i = 5 := by omega
      refine bv_iload_n 11 rfl C d_B_countNeeds_10 rfl ?_
      refine bv_iconst (v := nI 5) 12 rfl C d_B_countNeeds_11 (by decide) ?_
      refine bv_icmp_ge 46 15 rfl C d_B_countNeeds_12 (by decide) (fun h => ?_) (fun h => absurd (nI_le (by decide) (by decide)) h)
      refine bv_iconst (v := nI 0) 47 rfl C d_B_countNeeds_46 (by decide) ?_
      refine bv_istore_n 48 rfl C d_B_countNeeds_47 (by decide) ?_
      refine bv_wk [(0, .ref (ad 0)), (1, .int (nI 0))] ⟨rfl, rfl, trivial⟩ ?_
      exact loopV 40 0 w (by omega) hI
    | succ d ih =>
      intro i w hi hI
      obtain ⟨V, hV, h0⟩ := hI.k0 (k := 0) (by decide) (by decide)
      obtain ⟨so, sb, sk, ⟨f, hf, hf'⟩, hs⟩ := hI.ss
      refine bv_iload_n 11 rfl C d_B_countNeeds_10 rfl ?_
      refine bv_iconst (v := nI 5) 12 rfl C d_B_countNeeds_11 (by decide) ?_
      refine bv_icmp_ge 46 15 rfl C d_B_countNeeds_12 (by decide) (fun h => absurd h (nI_ge (by omega) (by decide))) (fun h => ?_)
      refine bv_aload_n 16 rfl C d_B_countNeeds_15 rfl ?_
      refine bv_get 0 3 19 rfl C k_B (by omega) rfl h0 (by decide) t1_149 rfl d_B_countNeeds_16 ?_
      refine bv_iload_n 20 rfl C d_B_countNeeds_19 rfl ?_
      refine bv_aald 5 5 i 21 rfl C rfl (by omega) rfl hf rfl (by omega) (by decide) d_B_countNeeds_20 (hf' i (by omega)) ?_
      refine bv_getN (109+14*i) 0 24 rfl C k_S (by omega) rfl (hs i (by omega)) (by decide) n1_105 rfl d_B_countNeeds_21 ?_
      refine bv_if_eq 40 27 rfl C d_B_countNeeds_24 (by decide) (fun x2 => ?_) (fun x2 => ?_)
      · refine bv_iinc 43 rfl C d_B_countNeeds_40 rfl (by first | exact b_inc _ | rfl) (by decide) ?_
        refine bv_goto 10 C d_B_countNeeds_43 (by decide) ?_
        refine bv_wk [(0, .ref (ad 0)), (1, .int (nI (i + 1)))] ⟨rfl, rfl, trivial⟩ ?_
        exact ih (i + 1) w (by omega) hI
      · refine bv_aload_n 28 rfl C d_B_countNeeds_27 rfl ?_
        refine bv_get 0 3 31 rfl C k_B (by omega) rfl h0 (by decide) t1_149 rfl d_B_countNeeds_28 ?_
        refine bv_iload_n 32 rfl C d_B_countNeeds_31 rfl ?_
        refine bv_aald 5 5 i 33 rfl C rfl (by omega) rfl hf rfl (by omega) (by decide) d_B_countNeeds_32 (hf' i (by omega)) ?_
        refine bv_aload_n 34 rfl C d_B_countNeeds_33 rfl ?_
        refine bv_get 0 9 37 rfl C k_B (by omega) rfl h0 (by decide) t1_155 rfl d_B_countNeeds_34 ?_
        refine bv_call (rest := []) 40 rfl C d_B_countNeeds_37 (j_S_countInto hI (show i < 5 by omega)) i_S_countInto t1_6 (fun H locs ls hP => bs_VN (av := [.ref (ad 12)]) (109+14*i) C i_S_countInto n1_224 t1_226 s_6 (by omega) rfl (hs i (by omega)) rfl (by decide) rfl rfl d_B_countNeeds_37 H locs ls hP) ⟨by first | decide | omega, by first | decide | omega⟩ (by decide) (by decide) (Nat.le_of_ble_eq_true rfl) (fun v ad1 w1 N1 hpo => ?_) (fun x Cn ad' w' N' hth => hth.elim)
        obtain ⟨rfl, rfl, hI1, rfl⟩ := hpo
        refine bv_iinc 43 rfl C d_B_countNeeds_40 rfl (by first | exact b_inc _ | rfl) (by decide) ?_
        refine bv_goto 10 C d_B_countNeeds_43 (by decide) ?_
        refine bv_wk [(0, .ref (ad 0)), (1, .int (nI (i + 1)))] ⟨rfl, rfl, trivial⟩ ?_
        exact ih (i + 1) w1 (by omega) hI1
  obtain ⟨V, hV, h0⟩ := hI.k0 (k := 0) (by decide) (by decide)
  obtain ⟨g, hg⟩ := hI.k12 (k := 12) (by decide) (by decide)
  refine bv_aload_n 1 rfl C d_B_countNeeds_0 rfl ?_
  refine bv_get 0 9 4 rfl C k_B (by omega) rfl h0 (by decide) t1_155 rfl d_B_countNeeds_1 ?_
  refine bv_iconst (v := nI 0) 5 rfl C d_B_countNeeds_4 (by decide) ?_
  refine bv_call (rest := []) 8 rfl C d_B_countNeeds_5 (ct_A_fill (k := 12) (by decide) (by decide) hg (x := nI 0)) i_A_fill t1_18 (fun H locs ls _ => bs_S (av := [.ref (ad 12), .int (nI 0)]) C i_A_fill t1_221 t1_222 t1_18 (by decide) rfl rfl d_B_countNeeds_5 H locs ls) ⟨by first | decide | omega, by first | decide | omega⟩ (by decide) (by decide) (Nat.le_of_ble_eq_true rfl) (fun v ad1 w1 N1 hpo => ?_) (fun x Cn ad' w' N' hth => hth.elim)
  obtain ⟨rfl, rfl, rfl, f, rfl⟩ := hpo
  refine bv_any (hI.up ((sh_12 (by decide)).mpr ⟨_, rfl⟩)) (fun w1 hI1 => ?_)
  refine bv_iconst (v := nI 0) 9 rfl C d_B_countNeeds_8 (by decide) ?_
  refine bv_istore_n 10 rfl C d_B_countNeeds_9 (by decide) ?_
  refine bv_wk [(0, .ref (ad 0)), (1, .int (nI 0))] ⟨rfl, rfl, trivial⟩ ?_
  exact loopS 5 0 w1 (by omega) hI1
theorem j_B_collect (hlt : bOff l) (hI : II dd ad w) : bK l dd y_B_collect 7 102 49 294 [.ref (ad 0)] ad w 324 (bJ dd ad vI) (bJT dd ad (fun Cn => Cn = xISE ∨ Cn = xUOE)) := by
  obtain ⟨V, hV, h0⟩ := hI.k0 (k := 0) (by decide) (by decide)
  obtain ⟨px, py, pz, p1⟩ := hI.k1 (k := 1) (by decide) (by decide)
  refine bK.start [(0, .ref (ad 0))] (by decide) t3_48 (Nat.le_of_ble_eq_true rfl) rfl (fun p e s m args below meth c A hnm C => ?_)
  have loop : ∀ (d i : Nat) (r : Int32) (w : Nat → va_E), i + d = 48 → II dd ad w → bV p l e { frames := 7, cells := 49, slots := 294, locals := 102 } s m args below meth c dd A 3 49 294 (bJ dd ad vI) (bJT dd ad (fun Cn => Cn = xISE ∨ Cn = xUOE)) 15 (bO [(0, .ref (ad 0)), (1, .int r), (2, .int (nI i))]) [] ad w 324 (i + 1) (6 * (i + 1)) := by
    intro d
    induction d with
    | zero =>
      intro i r w hi hI
      obtain rfl : i = 48 := by omega
      refine bv_iload_n 16 rfl C d_B_collect_15 rfl ?_
      refine bv_bipush (v := nI 48) 18 rfl C d_B_collect_16 (by decide) ?_
      refine bv_icmp_ge 67 21 rfl C d_B_collect_18 (by decide) (fun h => ?_) (fun h => absurd (nI_le (by decide) (by decide)) h)
      refine bv_iload_n 68 rfl C d_B_collect_67 rfl ?_
      exact bv_ireturn C rfl d_B_collect_68 (by decide) (by decide) ⟨rfl, rfl, hI, _, rfl⟩
    | succ d ih =>
      intro i r w hi hI
      obtain ⟨V, hV, h0⟩ := hI.k0 (k := 0) (by decide) (by decide)
      obtain ⟨f, hf, hf'⟩ := hI.k4 (k := 4) (by decide) (by decide)
      obtain ⟨g, hg⟩ := hI.k12 (k := 12) (by decide) (by decide)
      have hc := bKy.c (show i < 48 by omega)
      obtain ⟨n0, b0, g0, a1, a2⟩ := hc.at hI
      have skip : bV p l e { frames := 7, cells := 49, slots := 294, locals := 102 } s m args below meth c dd A 3 49 294 (bJ dd ad vI) (bJT dd ad (fun Cn => Cn = xISE ∨ Cn = xUOE)) 61 (bO [(0, .ref (ad 0)), (1, .int r), (2, .int (nI i))]) [] ad w 324 (i + 1) (6 * (i + 1)) := by
        refine bv_iinc 64 rfl C d_B_collect_61 rfl (by first | exact b_inc _ | rfl) (by decide) ?_
        refine bv_goto 15 C d_B_collect_64 (by decide) ?_
        refine bv_wk [(0, .ref (ad 0)), (1, .int r), (2, .int (nI (i + 1)))] ⟨rfl, rfl, rfl, trivial⟩ ?_
        refine bv_cs (i + 1 + 1) (6 * (i + 1 + 1)) (by omega) (by omega) ?_
        exact ih (i + 1) r w (by omega) hI
      refine bv_iload_n 16 rfl C d_B_collect_15 rfl ?_
      refine bv_bipush (v := nI 48) 18 rfl C d_B_collect_16 (by decide) ?_
      refine bv_icmp_ge 67 21 rfl C d_B_collect_18 (by decide) (fun h => absurd h (nI_ge (by omega) (by decide))) (fun h => ?_)
      refine bv_aload_n 22 rfl C d_B_collect_21 rfl ?_
      refine bv_get 0 2 25 rfl C k_B (by omega) rfl h0 (by decide) t1_148 rfl d_B_collect_22 ?_
      refine bv_iload_n 26 rfl C d_B_collect_25 rfl ?_
      refine bv_aald 3 4 i 27 rfl C rfl (by omega) rfl hf rfl (by omega) (by decide) d_B_collect_26 (hf' i (by omega)) ?_
      refine bv_call (rest := []) 30 rfl C d_B_collect_27 (ct_K_isFree (k := 13 + 2 * i) (by omega) a1) i_K_isFree t1_5 (fun H locs ls hP => bs_VN (av := []) (13+2*i) C i_K_isFree n1_213 t1_215 s_4 (by omega) rfl a1 rfl (by decide) rfl rfl d_B_collect_27 H locs ls hP) ⟨by first | decide | omega, by first | decide | omega⟩ (by show _ ≤ 49; omega) (by show _ ≤ 294; omega) (Nat.le_of_ble_eq_true rfl) (fun v ad1 w1 N1 hpo => ?_) (fun x Cn ad' w' N' hth => hth.elim)
      obtain ⟨rfl, rfl, rfl, rfl⟩ := hpo
      refine bv_if_ne 61 33 rfl C d_B_collect_30 (by decide) (fun x1 => ?_) (fun x1 => ?_)
      · exact skip
      · refine bv_aload_n 34 rfl C d_B_collect_33 rfl ?_
        refine bv_get 0 9 37 rfl C k_B (by omega) rfl h0 (by decide) t1_155 rfl d_B_collect_34 ?_
        refine bv_iload_n 38 rfl C d_B_collect_37 rfl ?_
        refine bv_iald 12 i 39 rfl C (by omega) rfl hg rfl (by omega) (by decide) d_B_collect_38 ?_
        refine bv_if_ne 61 42 rfl C d_B_collect_39 (by decide) (fun x2 => ?_) (fun x2 => ?_)
        · exact skip
        · obtain ⟨px, py, pz, p1⟩ := hI.k1 (k := 1) (by decide) (by decide)
          refine bv_aload_n 43 rfl C d_B_collect_42 rfl ?_
          refine bv_get 0 0 46 rfl C k_B (by omega) rfl h0 (by decide) t1_146 rfl d_B_collect_43 ?_
          refine bv_call (rest := []) 49 rfl C d_B_collect_46 (j_P_spendWrite hlt hI) i_P_spendWrite t1_2 (fun H locs ls hP => bs_VN (av := []) 1 C i_P_spendWrite n2_158 t2_160 s_21 (by omega) rfl p1 rfl (by decide) rfl rfl d_B_collect_46 H locs ls hP) ⟨by first | decide | omega, by first | decide | omega⟩ (by show _ ≤ 49; omega) (by show _ ≤ 294; omega) (Nat.le_of_ble_eq_true rfl) (fun v ad1 w1 N1 hpo => ?_) (fun x Cn ad' w' N' hth => ?_)
          · obtain ⟨rfl, rfl, hI1, rfl⟩ := hpo
            obtain ⟨V, hV, h0⟩ := hI1.k0 (k := 0) (by decide) (by decide)
            obtain ⟨f, hf, hf'⟩ := hI1.k4 (k := 4) (by decide) (by decide)
            obtain ⟨n0, b0, g0, a1, a2⟩ := hc.at hI1
            refine bv_aload_n 50 rfl C d_B_collect_49 rfl ?_
            refine bv_get 0 2 53 rfl C k_B (by omega) rfl h0 (by decide) t1_148 rfl d_B_collect_50 ?_
            refine bv_iload_n 54 rfl C d_B_collect_53 rfl ?_
            refine bv_aald 3 4 i 55 rfl C rfl (by omega) rfl hf rfl (by omega) (by decide) d_B_collect_54 (hf' i (by omega)) ?_
            refine bv_call (rest := []) 58 rfl C d_B_collect_55 (ct_K_free (k := 13 + 2 * i) (by omega) a1) i_K_free t1_5 (fun H locs ls hP => bs_VN (av := []) (13+2*i) C i_K_free n3_49 t3_51 s_34 (by omega) rfl a1 rfl (by decide) rfl rfl d_B_collect_55 H locs ls hP) ⟨by first | decide | omega, by first | decide | omega⟩ (by show _ ≤ 49; omega) (by show _ ≤ 294; omega) (Nat.le_of_ble_eq_true rfl) (fun v ad1 w2 N1 hpo => ?_) (fun x Cn ad' w' N' hth => hth.elim)
            obtain ⟨rfl, rfl, rfl, rfl⟩ := hpo
            refine bv_any (hI1.up ((sh_13 hc.2.2.1).mpr ⟨_, _, rfl⟩)) (fun w2 hI2 => ?_)
            refine bv_iinc 61 rfl C d_B_collect_58 rfl (by first | exact b_inc _ | rfl) (by decide) ?_
            refine bv_iinc 64 rfl C d_B_collect_61 rfl (by first | exact b_inc _ | rfl) (by decide) ?_
            refine bv_goto 15 C d_B_collect_64 (by decide) ?_
            refine bv_wk [(0, .ref (ad 0)), (1, .int (r + Int32.ofInt 1)), (2, .int (nI (i + 1)))] ⟨rfl, rfl, rfl, trivial⟩ ?_
            refine bv_cs (i + 1 + 1) (6 * (i + 1 + 1)) (by omega) (by omega) ?_
            exact ih (i + 1) _ w2 (by omega) hI2
          · obtain ⟨rfl, rfl, hI1, rfl⟩ := hth
            exact bt_out C rfl (by omega) (by omega) ⟨rfl, rfl, hI1, Or.inr rfl⟩
  refine bv_aload_n 1 rfl C d_B_collect_0 rfl ?_
  refine bv_get 0 0 4 rfl C k_B (by omega) rfl h0 (by decide) t1_146 rfl d_B_collect_1 ?_
  refine bv_call (rest := []) 7 rfl C d_B_collect_4 (j_P_requireOn hlt hI) i_P_requireOn t1_2 (fun H locs ls hP => bs_VN (av := []) 1 C i_P_requireOn n2_61 t2_63 s_18 (by omega) rfl p1 rfl (by decide) rfl rfl d_B_collect_4 H locs ls hP) ⟨by first | decide | omega, by first | decide | omega⟩ (by decide) (by decide) (Nat.le_of_ble_eq_true rfl) (fun v ad1 w1 N1 hpo => ?_) (fun x Cn ad' w' N' hth => ?_)
  · obtain ⟨rfl, rfl, hI1, rfl⟩ := hpo
    obtain ⟨V, hV, h0⟩ := hI1.k0 (k := 0) (by decide) (by decide)
    refine bv_aload_n 8 rfl C d_B_collect_7 rfl ?_
    refine bv_call (rest := []) 11 rfl C d_B_collect_8 (j_B_countNeeds hI1) i_B_countNeeds t1_1 (fun H locs ls hP => bs_V (av := []) 0 C i_B_countNeeds t1_217 t1_219 s_5 (by omega) rfl h0 rfl (by decide) rfl rfl d_B_collect_8 H locs ls hP) ⟨by first | decide | omega, by first | decide | omega⟩ (by decide) (by decide) (Nat.le_of_ble_eq_true rfl) (fun v ad1 w2 N1 hpo => ?_) (fun x Cn ad' w' N' hth => hth.elim)
    obtain ⟨rfl, rfl, hI2, rfl⟩ := hpo
    refine bv_iconst (v := nI 0) 12 rfl C d_B_collect_11 (by decide) ?_
    refine bv_istore_n 13 rfl C d_B_collect_12 (by decide) ?_
    refine bv_iconst (v := nI 0) 14 rfl C d_B_collect_13 (by decide) ?_
    refine bv_istore_n 15 rfl C d_B_collect_14 (by decide) ?_
    refine bv_wk [(0, .ref (ad 0)), (1, .int (nI 0)), (2, .int (nI 0))] ⟨rfl, rfl, rfl, trivial⟩ ?_
    exact loop 48 0 _ w2 (by omega) hI2
  · obtain ⟨rfl, rfl, hI1, rfl⟩ := hth
    exact bt_out C rfl (by decide) (by decide) ⟨rfl, rfl, hI1, Or.inl rfl⟩
theorem j_B_latest {x y : Int32} (hI : II dd ad w) : bK l dd y_B_latest 0 0 0 0 [.ref (ad 0), .int x, .int y] ad w 324 (bSame ad w 324 vI) (bNo) := by
  obtain ⟨V, hV, h0⟩ := hI.k0 (k := 0) (by decide) (by decide)
  obtain ⟨f, hf, hf'⟩ := hI.k6 (k := 6) (by decide) (by decide)
  refine bK.start [(0, .ref (ad 0)), (1, .int x), (2, .int y)] (by decide) t1_188 (Nat.le_of_ble_eq_true rfl) rfl (fun p e s m args below meth c A hnm C => ?_)
  have loop : ∀ (i : Nat), i ≤ 40 → bV p l e { frames := 0, cells := 0, slots := 0, locals := 0 } s m args below meth c dd A 5 0 0 (bSame ad w 324 vI) (bNo) 5 (bO [(0, .ref (ad 0)), (1, .int x), (2, .int y), (3, .int (nI i))]) [] ad w 324 0 0 := by
    intro i
    induction i with
    | zero =>
      intro hi
      refine bv_iload_n 6 rfl C d_B_latest_5 rfl ?_
      refine bv_iconst (v := nI 1) 7 rfl C d_B_latest_6 (by decide) ?_
      refine bv_icmp_lt 54 10 rfl C d_B_latest_7 (by decide) (fun h => ?_) (fun h => absurd (show nI 0 < nI 1 by decide) h)
      refine bv_iconst (v := nI 0) 55 rfl C d_B_latest_54 (by decide) ?_
      exact bv_ireturn C rfl d_B_latest_55 (Nat.le_refl _) (Nat.le_refl _) ⟨rfl, rfl, rfl, _, rfl⟩
    | succ i ih =>
      intro hi
      obtain ⟨vl, vb, vk, v1⟩ := hI.k19 (k := 179 + 3 * i) (by omega) (kd_v (by omega))
      have skip : bV p l e { frames := 0, cells := 0, slots := 0, locals := 0 } s m args below meth c dd A 5 0 0 (bSame ad w 324 vI) (bNo) 48 (bO [(0, .ref (ad 0)), (1, .int x), (2, .int y), (3, .int (nI (i + 1)))]) [] ad w 324 0 0 := by
        refine bv_iinc (v := (nI i)) 51 rfl C d_B_latest_48 rfl (pk_m1 i) (by decide) ?_
        refine bv_goto 5 C d_B_latest_51 (by decide) ?_
        refine bv_wk [(0, .ref (ad 0)), (1, .int x), (2, .int y), (3, .int (nI i))] ⟨rfl, rfl, rfl, rfl, trivial⟩ ?_
        exact ih (by omega)
      refine bv_iload_n 6 rfl C d_B_latest_5 rfl ?_
      refine bv_iconst (v := nI 1) 7 rfl C d_B_latest_6 (by decide) ?_
      refine bv_icmp_lt 54 10 rfl C d_B_latest_7 (by decide) (fun h => absurd h (nI_nlt (show 1 ≤ i + 1 by omega) (by omega))) (fun h => ?_)
      refine bv_aload_n 11 rfl C d_B_latest_10 rfl ?_
      refine bv_get 0 4 14 rfl C k_B (by omega) rfl h0 (by decide) t1_150 rfl d_B_latest_11 ?_
      refine bv_iload_n 15 rfl C d_B_latest_14 rfl ?_
      refine bv_iconst (v := nI 1) 16 rfl C d_B_latest_15 (by decide) ?_
      refine bv_isub 17 rfl C d_B_latest_16 ?_
      refine bv_seti (nI i) (by rw [pk_sub (by omega)]; rfl) ?_
      refine bv_aald 6 6 i 18 rfl C rfl (by omega) rfl hf rfl (by omega) (by decide) d_B_latest_17 (hf' i (by omega)) ?_
      refine bv_astore 20 rfl C d_B_latest_18 (by decide) ?_
      refine bv_aload 22 rfl C d_B_latest_20 rfl ?_
      refine bv_getN (179+3*i) 0 25 rfl C k_V (by omega) rfl v1 (by decide) n1_130 rfl d_B_latest_22 ?_
      refine bv_if_eq 48 28 rfl C d_B_latest_25 (by decide) (fun x1 => ?_) (fun x1 => ?_)
      · exact bv_wk [(0, .ref (ad 0)), (1, .int x), (2, .int y), (3, .int (nI (i + 1)))] ⟨rfl, rfl, rfl, rfl, trivial⟩ skip
      · refine bv_aload 30 rfl C d_B_latest_28 rfl ?_
        refine bv_getN (179+3*i) 1 33 rfl C k_V (by omega) rfl v1 (by decide) n1_132 rfl d_B_latest_30 ?_
        refine bv_iload_n 34 rfl C d_B_latest_33 rfl ?_
        refine bv_icmp_ne 48 37 rfl C d_B_latest_34 (by decide) (fun x2 => ?_) (fun x2 => ?_)
        · exact bv_wk [(0, .ref (ad 0)), (1, .int x), (2, .int y), (3, .int (nI (i + 1)))] ⟨rfl, rfl, rfl, rfl, trivial⟩ skip
        · refine bv_aload 39 rfl C d_B_latest_37 rfl ?_
          refine bv_getN (179+3*i) 2 42 rfl C k_V (by omega) rfl v1 (by decide) n1_134 rfl d_B_latest_39 ?_
          refine bv_iload_n 43 rfl C d_B_latest_42 rfl ?_
          refine bv_icmp_ne 48 46 rfl C d_B_latest_43 (by decide) (fun x3 => ?_) (fun x3 => ?_)
          · exact bv_wk [(0, .ref (ad 0)), (1, .int x), (2, .int y), (3, .int (nI (i + 1)))] ⟨rfl, rfl, rfl, rfl, trivial⟩ skip
          · refine bv_iload_n 47 rfl C d_B_latest_46 rfl ?_
            exact bv_ireturn C rfl d_B_latest_47 (Nat.le_refl _) (Nat.le_refl _) ⟨rfl, rfl, rfl, _, rfl⟩
  refine bv_aload_n 1 rfl C d_B_latest_0 rfl ?_
  refine bv_get 0 5 4 rfl C k_B (by omega) rfl h0 (by decide) t1_151 rfl d_B_latest_1 ?_
  refine bv_istore_n 5 rfl C d_B_latest_4 (by decide) ?_
  refine bv_wk [(0, .ref (ad 0)), (1, .int x), (2, .int y), (3, .int (nI V))] ⟨rfl, rfl, rfl, rfl, trivial⟩ ?_
  exact loop V hV
theorem j_B_size {x : Int32} (hI : II dd ad w) : bK l dd y_B_size 1 21 0 0 [.ref (ad 0), .int x] ad w 324 (bSame ad w 324 vI) (bNo) := by
  obtain ⟨V, hV, h0⟩ := hI.k0 (k := 0) (by decide) (by decide)
  obtain ⟨f, hf, hf'⟩ := hI.k4 (k := 4) (by decide) (by decide)
  refine bK.start [(0, .ref (ad 0)), (1, .int x)] (by decide) t1_192 (Nat.le_of_ble_eq_true rfl) rfl (fun p e s m args below meth c A hnm C => ?_)
  refine bv_aload_n 1 rfl C d_B_size_0 rfl ?_
  refine bv_iload_n 2 rfl C d_B_size_1 rfl ?_
  refine bv_call (rest := []) 5 rfl C d_B_size_2 (j_B_livingVersion hI) i_B_livingVersion t1_1 (fun H locs ls hP => bs_V (av := [.int x]) 0 C i_B_livingVersion t1_193 t1_195 s_1 (by omega) rfl h0 rfl (by decide) rfl rfl d_B_size_2 H locs ls hP) ⟨by first | decide | omega, by first | decide | omega⟩ (by decide) (by decide) (Nat.le_of_ble_eq_true rfl) (fun v ad1 w2 N1 hpo => ?_) (fun x Cn ad' w' N' hth => hth.elim)
  obtain ⟨rfl, rfl, rfl, hv⟩ := hpo
  rcases hv with rfl | ⟨j, hj, rfl⟩
  · refine bv_astore_nN 6 rfl C d_B_size_5 (by decide) ?_
    refine bv_aload_nN 7 rfl C d_B_size_6 rfl ?_
    refine bv_ifnonnullN 10 rfl C d_B_size_7 ?_
    refine bv_iconst (v := -1) 11 rfl C d_B_size_10 (by decide) ?_
    exact bv_ireturn C rfl d_B_size_11 (Nat.le_refl _) (Nat.le_refl _) ⟨rfl, rfl, rfl, _, rfl⟩
  · obtain ⟨vl, vb, vk, v1⟩ := hI.k19 (k := 179 + 3 * j) (by omega) (kd_v hj)
    obtain ⟨n, g, hn, g1, g2, hg⟩ := (bRw.v hj).at hI
    have loop : ∀ (d i : Nat) (r : Int32), i + d = 18 → bV p l e { frames := 1, cells := 0, slots := 0, locals := 21 } s m args below meth c dd A 5 0 0 (bSame ad w 324 vI) (bNo) 17 (bO [(0, .ref (ad 0)), (2, .ref (ad (179 + 3 * j))), (3, .int r), (4, .int (nI i))]) [] ad w 324 0 0 := by
      intro d
      induction d with
      | zero =>
        intro i r hi
        refine bv_iload 19 rfl C d_B_size_17 rfl ?_
        refine bv_aload_n 20 rfl C d_B_size_19 rfl ?_
        refine bv_getN (179+3*j) 3 23 rfl C k_V (by omega) rfl v1 (by decide) n1_136 rfl d_B_size_20 ?_
        refine bv_getN (179+3*j+1) 1 26 rfl C k_R (by omega) rfl g1 (by decide) n1_73 rfl d_B_size_23 ?_
        refine bv_icmp_ge 56 29 rfl C d_B_size_26 (by decide) (fun h => ?_) (fun h => absurd (nI_le (show n ≤ i by omega) (by omega)) h)
        refine bv_iload_n 57 rfl C d_B_size_56 rfl ?_
        exact bv_ireturn C rfl d_B_size_57 (Nat.le_refl _) (Nat.le_refl _) ⟨rfl, rfl, rfl, _, rfl⟩
      | succ d ih =>
        intro i r hi
        obtain ⟨sl, hsl, he⟩ := hg i (by omega)
        obtain ⟨n0, b0, g0, a1, a2⟩ := (bKy.c hsl).at hI
        refine bv_iload 19 rfl C d_B_size_17 rfl ?_
        refine bv_aload_n 20 rfl C d_B_size_19 rfl ?_
        refine bv_getN (179+3*j) 3 23 rfl C k_V (by omega) rfl v1 (by decide) n1_136 rfl d_B_size_20 ?_
        refine bv_getN (179+3*j+1) 1 26 rfl C k_R (by omega) rfl g1 (by decide) n1_73 rfl d_B_size_23 ?_
        refine bv_icmp_ge 56 29 rfl C d_B_size_26 (by decide) (fun x1 => ?_) (fun x1 => ?_)
        · refine bv_iload_n 57 rfl C d_B_size_56 rfl ?_
          exact bv_ireturn C rfl d_B_size_57 (Nat.le_refl _) (Nat.le_refl _) ⟨rfl, rfl, rfl, _, rfl⟩
        · refine bv_iload_n 30 rfl C d_B_size_29 rfl ?_
          refine bv_aload_n 31 rfl C d_B_size_30 rfl ?_
          refine bv_get 0 2 34 rfl C k_B (by omega) rfl h0 (by decide) t1_148 rfl d_B_size_31 ?_
          refine bv_aload_n 35 rfl C d_B_size_34 rfl ?_
          refine bv_getN (179+3*j) 3 38 rfl C k_V (by omega) rfl v1 (by decide) n1_136 rfl d_B_size_35 ?_
          refine bv_getN (179+3*j+1) 0 41 rfl C k_R (by omega) rfl g1 (by decide) n1_70 rfl d_B_size_38 ?_
          refine bv_iload 43 rfl C d_B_size_41 rfl ?_
          refine bv_iald (179+3*j+1+1) i 44 rfl C (by omega) rfl g2 rfl (by omega) (by decide) d_B_size_43 ?_
          refine bv_seti (nI sl) he ?_
          refine bv_aald 3 4 sl 45 rfl C rfl (by omega) rfl hf rfl (by omega) (by decide) d_B_size_44 (hf' sl hsl) ?_
          refine bv_getN (13+2*sl) 0 48 rfl C k_K (by omega) rfl a1 (by decide) n1_85 rfl d_B_size_45 ?_
          refine bv_iadd 49 rfl C d_B_size_48 ?_
          refine bv_istore_n 50 rfl C d_B_size_49 (by decide) ?_
          refine bv_iinc 53 rfl C d_B_size_50 rfl (by first | exact b_inc _ | rfl) (by decide) ?_
          refine bv_goto 17 C d_B_size_53 (by decide) ?_
          refine bv_wk [(0, .ref (ad 0)), (2, .ref (ad (179 + 3 * j))), (3, .int (r + n0)), (4, .int (nI (i + 1)))] ⟨rfl, rfl, rfl, rfl, trivial⟩ ?_
          exact ih (i + 1) _ (by omega)
    refine bv_astore_n 6 rfl C d_B_size_5 (by decide) ?_
    refine bv_aload_n 7 rfl C d_B_size_6 rfl ?_
    refine bv_ifnonnull 12 C d_B_size_7 (by decide) ?_
    refine bv_iconst (v := nI 0) 13 rfl C d_B_size_12 (by decide) ?_
    refine bv_istore_n 14 rfl C d_B_size_13 (by decide) ?_
    refine bv_iconst (v := nI 0) 15 rfl C d_B_size_14 (by decide) ?_
    refine bv_istore 17 rfl C d_B_size_15 (by decide) ?_
    refine bv_wk [(0, .ref (ad 0)), (2, .ref (ad (179 + 3 * j))), (3, .int (nI 0)), (4, .int (nI 0))] ⟨rfl, rfl, rfl, rfl, trivial⟩ ?_
    exact loop 18 0 _ (by omega)
theorem j_B_byteAt {x y : Int32} (hI : II dd ad w) : bK l dd y_B_byteAt 1 21 0 0 [.ref (ad 0), .int x, .int y] ad w 324 (bSame ad w 324 vI) (bNo) := by
  obtain ⟨V, hV, h0⟩ := hI.k0 (k := 0) (by decide) (by decide)
  obtain ⟨f, hf, hf'⟩ := hI.k4 (k := 4) (by decide) (by decide)
  refine bK.start [(0, .ref (ad 0)), (1, .int x), (2, .int y)] (by decide) t1_200 (Nat.le_of_ble_eq_true rfl) rfl (fun p e s m args below meth c A hnm C => ?_)
  refine bv_aload_n 1 rfl C d_B_byteAt_0 rfl ?_
  refine bv_iload_n 2 rfl C d_B_byteAt_1 rfl ?_
  refine bv_call (rest := []) 5 rfl C d_B_byteAt_2 (j_B_livingVersion hI) i_B_livingVersion t1_1 (fun H locs ls hP => bs_V (av := [.int x]) 0 C i_B_livingVersion t1_193 t1_195 s_1 (by omega) rfl h0 rfl (by decide) rfl rfl d_B_byteAt_2 H locs ls hP) ⟨by first | decide | omega, by first | decide | omega⟩ (by decide) (by decide) (Nat.le_of_ble_eq_true rfl) (fun v ad1 w2 N1 hpo => ?_) (fun x Cn ad' w' N' hth => hth.elim)
  obtain ⟨rfl, rfl, rfl, hv⟩ := hpo
  rcases hv with rfl | ⟨j, hj, rfl⟩
  · refine bv_astore_nN 6 rfl C d_B_byteAt_5 (by decide) ?_
    refine bv_aload_nN 7 rfl C d_B_byteAt_6 rfl ?_
    refine bv_ifnullN 14 C d_B_byteAt_7 (by decide) ?_
    refine bv_iconst (v := -1) 15 rfl C d_B_byteAt_14 (by decide) ?_
    exact bv_ireturn C rfl d_B_byteAt_15 (Nat.le_refl _) (Nat.le_refl _) ⟨rfl, rfl, rfl, _, rfl⟩
  · obtain ⟨vl, vb, vk, v1⟩ := hI.k19 (k := 179 + 3 * j) (by omega) (kd_v hj)
    obtain ⟨n, g, hn, g1, g2, hg⟩ := (bRw.v hj).at hI
    have loop : ∀ (d i : Nat) (r : Int32), i + d = 18 → bV p l e { frames := 1, cells := 0, slots := 0, locals := 21 } s m args below meth c dd A 7 0 0 (bSame ad w 324 vI) (bNo) 22 (bO [(0, .ref (ad 0)), (3, .ref (ad (179 + 3 * j))), (4, .int r), (5, .int (nI i))]) [] ad w 324 0 0 := by
      intro d
      induction d with
      | zero =>
        intro i r hi
        refine bv_iload 24 rfl C d_B_byteAt_22 rfl ?_
        refine bv_aload_n 25 rfl C d_B_byteAt_24 rfl ?_
        refine bv_getN (179+3*j) 3 28 rfl C k_V (by omega) rfl v1 (by decide) n1_136 rfl d_B_byteAt_25 ?_
        refine bv_getN (179+3*j+1) 1 31 rfl C k_R (by omega) rfl g1 (by decide) n1_73 rfl d_B_byteAt_28 ?_
        refine bv_icmp_ge 85 34 rfl C d_B_byteAt_31 (by decide) (fun h => ?_) (fun h => absurd (nI_le (show n ≤ i by omega) (by omega)) h)
        refine bv_iconst (v := -1) 86 rfl C d_B_byteAt_85 (by decide) ?_
        exact bv_ireturn C rfl d_B_byteAt_86 (Nat.le_refl _) (Nat.le_refl _) ⟨rfl, rfl, rfl, _, rfl⟩
      | succ d ih =>
        intro i r hi
        obtain ⟨sl, hsl, he⟩ := hg i (by omega)
        obtain ⟨n0, b0, g0, a1, a2⟩ := (bKy.c hsl).at hI
        refine bv_iload 24 rfl C d_B_byteAt_22 rfl ?_
        refine bv_aload_n 25 rfl C d_B_byteAt_24 rfl ?_
        refine bv_getN (179+3*j) 3 28 rfl C k_V (by omega) rfl v1 (by decide) n1_136 rfl d_B_byteAt_25 ?_
        refine bv_getN (179+3*j+1) 1 31 rfl C k_R (by omega) rfl g1 (by decide) n1_73 rfl d_B_byteAt_28 ?_
        refine bv_icmp_ge 85 34 rfl C d_B_byteAt_31 (by decide) (fun x1 => ?_) (fun x1 => ?_)
        · refine bv_iconst (v := -1) 86 rfl C d_B_byteAt_85 (by decide) ?_
          exact bv_ireturn C rfl d_B_byteAt_86 (Nat.le_refl _) (Nat.le_refl _) ⟨rfl, rfl, rfl, _, rfl⟩
        · refine bv_aload_n 35 rfl C d_B_byteAt_34 rfl ?_
          refine bv_get 0 2 38 rfl C k_B (by omega) rfl h0 (by decide) t1_148 rfl d_B_byteAt_35 ?_
          refine bv_aload_n 39 rfl C d_B_byteAt_38 rfl ?_
          refine bv_getN (179+3*j) 3 42 rfl C k_V (by omega) rfl v1 (by decide) n1_136 rfl d_B_byteAt_39 ?_
          refine bv_getN (179+3*j+1) 0 45 rfl C k_R (by omega) rfl g1 (by decide) n1_70 rfl d_B_byteAt_42 ?_
          refine bv_iload 47 rfl C d_B_byteAt_45 rfl ?_
          refine bv_iald (179+3*j+1+1) i 48 rfl C (by omega) rfl g2 rfl (by omega) (by decide) d_B_byteAt_47 ?_
          refine bv_seti (nI sl) he ?_
          refine bv_aald 3 4 sl 49 rfl C rfl (by omega) rfl hf rfl (by omega) (by decide) d_B_byteAt_48 (hf' sl hsl) ?_
          refine bv_astore 51 rfl C d_B_byteAt_49 (by decide) ?_
          refine bv_iload 53 rfl C d_B_byteAt_51 rfl ?_
          refine bv_aload 55 rfl C d_B_byteAt_53 rfl ?_
          refine bv_getN (13+2*sl) 0 58 rfl C k_K (by omega) rfl a1 (by decide) n1_85 rfl d_B_byteAt_55 ?_
          refine bv_icmp_ge 69 61 rfl C d_B_byteAt_58 (by decide) (fun x2 => ?_) (fun x2 => ?_)
          · refine bv_iload 71 rfl C d_B_byteAt_69 rfl ?_
            refine bv_aload 73 rfl C d_B_byteAt_71 rfl ?_
            refine bv_getN (13+2*sl) 0 76 rfl C k_K (by omega) rfl a1 (by decide) n1_85 rfl d_B_byteAt_73 ?_
            refine bv_isub 77 rfl C d_B_byteAt_76 ?_
            refine bv_istore 79 rfl C d_B_byteAt_77 (by decide) ?_
            refine bv_iinc 82 rfl C d_B_byteAt_79 rfl (by first | exact b_inc _ | rfl) (by decide) ?_
            refine bv_goto 22 C d_B_byteAt_82 (by decide) ?_
            refine bv_wk [(0, .ref (ad 0)), (3, .ref (ad (179 + 3 * j))), (4, .int (r - n0)), (5, .int (nI (i + 1)))] ⟨rfl, rfl, rfl, rfl, trivial⟩ ?_
            exact ih (i + 1) _ (by omega)
          · refine bv_aload 63 rfl C d_B_byteAt_61 rfl ?_
            refine bv_iload 65 rfl C d_B_byteAt_63 rfl ?_
            refine bv_call (rest := []) 68 rfl C d_B_byteAt_65 (j_K_byteOf hI (bKy.c hsl) (x := r)) i_K_byteOf t1_5 (fun H locs ls hP => bs_VN (av := [.int r]) (13+2*sl) C i_K_byteOf n1_201 t1_203 s_2 (by omega) rfl a1 rfl (by decide) rfl rfl d_B_byteAt_65 H locs ls hP) ⟨by first | decide | omega, by first | decide | omega⟩ (by decide) (by decide) (Nat.le_of_ble_eq_true rfl) (fun v ad1 w2 N1 hpo => ?_) (fun x Cn ad' w' N' hth => hth.elim)
            obtain ⟨rfl, rfl, rfl, u, rfl⟩ := hpo
            exact bv_ireturn C rfl d_B_byteAt_68 (Nat.le_refl _) (Nat.le_refl _) ⟨rfl, rfl, rfl, _, rfl⟩
    refine bv_astore_n 6 rfl C d_B_byteAt_5 (by decide) ?_
    refine bv_aload_n 7 rfl C d_B_byteAt_6 rfl ?_
    refine bv_ifnull 10 rfl C d_B_byteAt_7 ?_
    refine bv_iload_n 11 rfl C d_B_byteAt_10 rfl ?_
    refine bv_if_ge 16 14 rfl C d_B_byteAt_11 (by decide) (fun x1 => ?_) (fun x1 => ?_)
    · refine bv_iload_n 17 rfl C d_B_byteAt_16 rfl ?_
      refine bv_istore 19 rfl C d_B_byteAt_17 (by decide) ?_
      refine bv_iconst (v := nI 0) 20 rfl C d_B_byteAt_19 (by decide) ?_
      refine bv_istore 22 rfl C d_B_byteAt_20 (by decide) ?_
      refine bv_wk [(0, .ref (ad 0)), (3, .ref (ad (179 + 3 * j))), (4, .int y), (5, .int (nI 0))] ⟨rfl, rfl, rfl, rfl, trivial⟩ ?_
      exact loop 18 0 _ (by omega)
    · refine bv_iconst (v := -1) 15 rfl C d_B_byteAt_14 (by decide) ?_
      exact bv_ireturn C rfl d_B_byteAt_15 (Nat.le_refl _) (Nat.le_refl _) ⟨rfl, rfl, rfl, _, rfl⟩
theorem j_B_address {x y : Int32} (hlt : bOff l) (hI : II dd ad w) : bK l dd y_B_address 6 82 1 6 [.ref (ad 0), .int x, .int y] ad w 324 (bSame ad w 324 vI) (bSameT ad w 324 (fun Cn => Cn = xNSE)) := by
  obtain ⟨V, hV, h0⟩ := hI.k0 (k := 0) (by decide) (by decide)
  obtain ⟨cl, cb, hC⟩ := hI.cs
  refine bK.start [(0, .ref (ad 0)), (1, .int x), (2, .int y)] (by decide) t3_72 (Nat.le_of_ble_eq_true rfl) rfl (fun p e s m args below meth c A hnm C => ?_)
  have bad : bV p l e { frames := 6, cells := 1, slots := 6, locals := 82 } s m args below meth c dd A 3 1 6 (bSame ad w 324 vI) (bSameT ad w 324 (fun Cn => Cn = xNSE)) 18 (bO []) [] ad w 324 0 0 := by
    exact bv_throwN (names := ["java/lang/Exception"]) (up := "java/lang/RuntimeException") (i0 := 13) (b0 := prog_21_method_4_code) hlt C d_B_address_18 d_B_address_21 d_B_address_22 d_B_address_24 d_B_address_27 t3_73 t3_74 t1_19 (show ("BlobStore", 178, "no such chunk or word") ∈ bStr by simp) (by decide) (by decide) (by decide) (by decide +kernel) (by decide +kernel) (by decide +kernel) (by decide +kernel) ow_N rfl (by decide) (by decide) (by decide) (by decide) (by decide) (by decide) ⟨rfl, rfl, rfl, rfl⟩
  refine bv_aload_n 1 rfl C d_B_address_0 rfl ?_
  refine bv_iload_n 2 rfl C d_B_address_1 rfl ?_
  refine bv_call (rest := []) 5 rfl C d_B_address_2 (ct_B_hasChunk (by decide) h0 hC) i_B_hasChunk t1_1 (fun H locs ls hP => bs_V (av := [.int x]) 0 C i_B_hasChunk t1_209 t1_211 s_3 (by omega) rfl h0 rfl (by decide) rfl rfl d_B_address_2 H locs ls hP) ⟨by first | decide | omega, by first | decide | omega⟩ (by decide) (by decide) (Nat.le_of_ble_eq_true rfl) (fun v ad1 w1 N1 hpo => ?_) (fun x Cn ad' w' N' hth => hth.elim)
  obtain ⟨rfl, rfl, rfl, hv⟩ := hpo
  rcases hv with ⟨rfl, i, hi, rfl, -⟩ | ⟨rfl, -⟩
  · refine bv_if_eq 18 8 rfl C d_B_address_5 (by decide) (fun h => absurd h (show ¬ nI 1 = 0 by decide)) (fun h => ?_)
    refine bv_iload_n 9 rfl C d_B_address_8 rfl ?_
    refine bv_if_lt 18 12 rfl C d_B_address_9 (by decide) (fun x1 => ?_) (fun x1 => ?_)
    · exact bv_wk [] trivial bad
    · refine bv_iload_n 13 rfl C d_B_address_12 rfl ?_
      refine bv_bipush (v := nI 8) 15 rfl C d_B_address_13 (by decide) ?_
      refine bv_icmp_lt 28 18 rfl C d_B_address_15 (by decide) (fun x2 => ?_) (fun x2 => ?_)
      · obtain ⟨f, hf, hf'⟩ := hI.k4 (k := 4) (by decide) (by decide)
        obtain ⟨n0, b0, g0, a1, a2⟩ := (bKy.c hi).at hI
        obtain ⟨j, hj, rfl⟩ : ∃ j, j < 8 ∧ y = nI j := by
          rcases pk_ix y (n := 8) (by decide) with h | h | h
          · exact absurd h x1
          · rw [Int32.lt_iff_toInt_lt] at x2; rw [Int32.le_iff_toInt_le] at h; omega
          · exact h
        refine bv_aload_n 29 rfl C d_B_address_28 rfl ?_
        refine bv_get 0 2 32 rfl C k_B (by omega) rfl h0 (by decide) t1_148 rfl d_B_address_29 ?_
        refine bv_iload_n 33 rfl C d_B_address_32 rfl ?_
        refine bv_aald 3 4 i 34 rfl C rfl (by omega) rfl hf rfl (by omega) (by decide) d_B_address_33 (hf' i (by omega)) ?_
        refine bv_getN (13+2*i) 2 37 rfl C k_K (by omega) rfl a1 (by decide) n1_88 rfl d_B_address_34 ?_
        refine bv_iload_n 38 rfl C d_B_address_37 rfl ?_
        refine bv_iald (13+2*i+1) j 39 rfl C (by omega) rfl a2 rfl hj (by decide) d_B_address_38 ?_
        exact bv_ireturn C rfl d_B_address_39 (by decide) (by decide) ⟨rfl, rfl, rfl, _, rfl⟩
      · exact bv_wk [] trivial bad
  · refine bv_if_eq 18 8 rfl C d_B_address_5 (by decide) (fun h => ?_) (fun h => absurd (show nI 0 = 0 by decide) h)
    exact bv_wk [] trivial bad
theorem j_B_needed {x : Int32} (hI : II dd ad w) : bK l dd y_B_needed 3 65 0 0 [.ref (ad 0), .int x] ad w 324 (bJ dd ad vI) (bNo) := by
  obtain ⟨V, hV, h0⟩ := hI.k0 (k := 0) (by decide) (by decide)
  obtain ⟨cl, cb, hC⟩ := hI.cs
  refine bK.start [(0, .ref (ad 0)), (1, .int x)] (by decide) t1_208 (Nat.le_of_ble_eq_true rfl) rfl (fun p e s m args below meth c A hnm C => ?_)
  refine bv_aload_n 1 rfl C d_B_needed_0 rfl ?_
  refine bv_iload_n 2 rfl C d_B_needed_1 rfl ?_
  refine bv_call (rest := []) 5 rfl C d_B_needed_2 (ct_B_hasChunk (by decide) h0 hC) i_B_hasChunk t1_1 (fun H locs ls hP => bs_V (av := [.int x]) 0 C i_B_hasChunk t1_209 t1_211 s_3 (by omega) rfl h0 rfl (by decide) rfl rfl d_B_needed_2 H locs ls hP) ⟨by first | decide | omega, by first | decide | omega⟩ (by decide) (by decide) (Nat.le_of_ble_eq_true rfl) (fun v ad1 w1 N1 hpo => ?_) (fun x Cn ad' w' N' hth => hth.elim)
  obtain ⟨rfl, rfl, rfl, hv⟩ := hpo
  rcases hv with ⟨rfl, i, hi, rfl, -⟩ | ⟨rfl, -⟩
  · refine bv_if_ne 10 8 rfl C d_B_needed_5 (by decide) (fun h => ?_) (fun h => absurd h (show ¬ nI 1 = 0 by decide))
    refine bv_aload_n 11 rfl C d_B_needed_10 rfl ?_
    refine bv_call (rest := []) 14 rfl C d_B_needed_11 (j_B_countNeeds hI) i_B_countNeeds t1_1 (fun H locs ls hP => bs_V (av := []) 0 C i_B_countNeeds t1_217 t1_219 s_5 (by omega) rfl h0 rfl (by decide) rfl rfl d_B_needed_11 H locs ls hP) ⟨by first | decide | omega, by first | decide | omega⟩ (by decide) (by decide) (Nat.le_of_ble_eq_true rfl) (fun v ad1 w1 N1 hpo => ?_) (fun x Cn ad' w' N' hth => hth.elim)
    obtain ⟨rfl, rfl, hI1, rfl⟩ := hpo
    obtain ⟨V, hV, h0⟩ := hI1.k0 (k := 0) (by decide) (by decide)
    obtain ⟨g, hg⟩ := hI1.k12 (k := 12) (by decide) (by decide)
    refine bv_aload_n 15 rfl C d_B_needed_14 rfl ?_
    refine bv_get 0 9 18 rfl C k_B (by omega) rfl h0 (by decide) t1_155 rfl d_B_needed_15 ?_
    refine bv_iload_n 19 rfl C d_B_needed_18 rfl ?_
    refine bv_iald 12 i 20 rfl C (by omega) rfl hg rfl hi (by decide) d_B_needed_19 ?_
    exact bv_ireturn C rfl d_B_needed_20 (Nat.le_refl _) (Nat.le_refl _) ⟨rfl, rfl, hI1, _, rfl⟩
  · refine bv_if_ne 10 8 rfl C d_B_needed_5 (by decide) (fun h => absurd (show nI 0 = 0 by decide) h) (fun h => ?_)
    refine bv_iconst (v := -1) 9 rfl C d_B_needed_8 (by decide) ?_
    exact bv_ireturn C rfl d_B_needed_9 (Nat.le_refl _) (Nat.le_refl _) ⟨rfl, rfl, hI, _, rfl⟩
theorem j_B_slotOf {n : Int32} {x : Int64} (hI : II dd ad w) : bK l dd y_B_slotOf 4 104 0 0 [.ref (ad 0), .int n, .long x] ad w 324 (bJ dd ad vI) (bNo) := by
  obtain ⟨V, hV, h0⟩ := hI.k0 (k := 0) (by decide) (by decide)
  obtain ⟨n0, b0, g0, a1, a2⟩ := bKy.w.at hI
  refine bK.start [(0, .ref (ad 0)), (1, .int n), (2, .long x)] (by decide) t1_236 (Nat.le_of_ble_eq_true rfl) rfl (fun p e s m args below meth c A hnm C => ?_)
  have bad : bV p l e { frames := 4, cells := 0, slots := 0, locals := 104 } s m args below meth c dd A 4 0 0 (bJ dd ad vI) (bNo) 11 (bO []) [] ad w 324 0 0 := by
    refine bv_iconst (v := -1) 12 rfl C d_B_slotOf_11 (by decide) ?_
    exact bv_ireturn C rfl d_B_slotOf_12 (Nat.le_refl _) (Nat.le_refl _) ⟨rfl, rfl, hI, _, rfl⟩
  refine bv_iload_n 1 rfl C d_B_slotOf_0 rfl ?_
  refine bv_iconst (v := nI 1) 2 rfl C d_B_slotOf_1 (by decide) ?_
  refine bv_icmp_lt 11 5 rfl C d_B_slotOf_2 (by decide) (fun x1 => ?_) (fun x1 => ?_)
  · exact bv_wk [] trivial bad
  · refine bv_iload_n 6 rfl C d_B_slotOf_5 rfl ?_
    refine bv_bipush (v := nI 8) 8 rfl C d_B_slotOf_6 (by decide) ?_
    refine bv_icmp_le 13 11 rfl C d_B_slotOf_8 (by decide) (fun x2 => ?_) (fun x2 => ?_)
    · refine bv_aload_n 14 rfl C d_B_slotOf_13 rfl ?_
      refine bv_get 0 8 17 rfl C k_B (by omega) rfl h0 (by decide) t1_154 rfl d_B_slotOf_14 ?_
      refine bv_iload_n 18 rfl C d_B_slotOf_17 rfl ?_
      refine bv_lload_n 19 rfl C d_B_slotOf_18 rfl ?_
      refine bv_aload_n 20 rfl C d_B_slotOf_19 rfl ?_
      refine bv_get 0 1 23 rfl C k_B (by omega) rfl h0 (by decide) t1_147 rfl d_B_slotOf_20 ?_
      refine bv_call (rest := []) 26 rfl C d_B_slotOf_23 (j_K_fill hI bKy.w (n := n) (x := x)) i_K_fill t1_5 (fun H locs ls hP => bs_VN (av := [.int n, .long x, .ref (ad 2)]) 10 C i_K_fill n1_237 t1_239 s_8 (by omega) rfl a1 rfl (by decide) rfl rfl d_B_slotOf_23 H locs ls hP) ⟨by first | decide | omega, by first | decide | omega⟩ (by decide) (by decide) (Nat.le_of_ble_eq_true rfl) (fun v ad1 w1 N1 hpo => ?_) (fun x Cn ad' w' N' hth => hth.elim)
      obtain ⟨rfl, rfl, hI1, rfl⟩ := hpo
      obtain ⟨V, hV, h0⟩ := hI1.k0 (k := 0) (by decide) (by decide)
      refine bv_aload_n 27 rfl C d_B_slotOf_26 rfl ?_
      refine bv_aload_n 28 rfl C d_B_slotOf_27 rfl ?_
      refine bv_get 0 8 31 rfl C k_B (by omega) rfl h0 (by decide) t1_154 rfl d_B_slotOf_28 ?_
      refine bv_call (rest := []) 34 rfl C d_B_slotOf_31 (j_B_slotWith hI1 bKy.w) i_B_slotWith t1_1 (fun H locs ls hP => bs_V (av := [.ref (ad 10)]) 0 C i_B_slotWith t2_27 t2_29 s_13 (by omega) rfl h0 rfl (by decide) rfl rfl d_B_slotOf_31 H locs ls hP) ⟨by first | decide | omega, by first | decide | omega⟩ (by decide) (by decide) (Nat.le_of_ble_eq_true rfl) (fun v ad1 w2 N1 hpo => ?_) (fun x Cn ad' w' N' hth => hth.elim)
      obtain ⟨rfl, rfl, rfl, hv⟩ := hpo
      obtain ⟨r, rfl⟩ : vI v := by rcases hv with rfl | ⟨_, _, rfl⟩ <;> exact ⟨_, rfl⟩
      exact bv_ireturn C rfl d_B_slotOf_34 (Nat.le_refl _) (Nat.le_refl _) ⟨rfl, rfl, hI1, _, rfl⟩
    · exact bv_wk [] trivial bad
theorem j_B_countChunks (hI : II dd ad w) : bK l dd y_B_countChunks 1 20 0 0 [.ref (ad 0)] ad w 324 (bSame ad w 324 vI) (bNo) := by
  obtain ⟨V, hV, h0⟩ := hI.k0 (k := 0) (by decide) (by decide)
  obtain ⟨f, hf, hf'⟩ := hI.k4 (k := 4) (by decide) (by decide)
  refine bK.start [(0, .ref (ad 0))] (by decide) t2_42 (Nat.le_of_ble_eq_true rfl) rfl (fun p e s m args below meth c A hnm C => ?_)
  have loop : ∀ (d i : Nat) (r : Int32), i + d = 48 → bV p l e { frames := 1, cells := 0, slots := 0, locals := 20 } s m args below meth c dd A 3 0 0 (bSame ad w 324 vI) (bNo) 4 (bO [(0, .ref (ad 0)), (1, .int r), (2, .int (nI i))]) [] ad w 324 0 0 := by
    intro d
    induction d with
    | zero =>
      intro i r hi
      obtain rfl : i = 48 := by omega
      refine bv_iload_n 5 rfl C d_B_countChunks_4 rfl ?_
      refine bv_bipush (v := nI 48) 7 rfl C d_B_countChunks_5 (by decide) ?_
      refine bv_icmp_ge 36 10 rfl C d_B_countChunks_7 (by decide) (fun h => ?_) (fun h => absurd (nI_le (by decide) (by decide)) h)
      refine bv_iload_n 37 rfl C d_B_countChunks_36 rfl ?_
      exact bv_ireturn C rfl d_B_countChunks_37 (Nat.le_refl _) (Nat.le_refl _) ⟨rfl, rfl, rfl, _, rfl⟩
    | succ d ih =>
      intro i r hi
      obtain ⟨n0, b0, g0, a1, a2⟩ := (bKy.c (show i < 48 by omega)).at hI
      have go : ∀ u : Int32, bV p l e { frames := 1, cells := 0, slots := 0, locals := 20 } s m args below meth c dd A 3 0 0 (bSame ad w 324 vI) (bNo) 28 (bO [(0, .ref (ad 0)), (1, .int r), (2, .int (nI i))]) [.int u, .int r] ad w 324 0 0 := by
        intro u
        refine bv_iadd 29 rfl C d_B_countChunks_28 ?_
        refine bv_istore_n 30 rfl C d_B_countChunks_29 (by decide) ?_
        refine bv_iinc 33 rfl C d_B_countChunks_30 rfl (by first | exact b_inc _ | rfl) (by decide) ?_
        refine bv_goto 4 C d_B_countChunks_33 (by decide) ?_
        refine bv_wk [(0, .ref (ad 0)), (1, .int (r + u)), (2, .int (nI (i + 1)))] ⟨rfl, rfl, rfl, trivial⟩ ?_
        exact ih (i + 1) _ (by omega)
      refine bv_iload_n 5 rfl C d_B_countChunks_4 rfl ?_
      refine bv_bipush (v := nI 48) 7 rfl C d_B_countChunks_5 (by decide) ?_
      refine bv_icmp_ge 36 10 rfl C d_B_countChunks_7 (by decide) (fun h => absurd h (nI_ge (by omega) (by decide))) (fun h => ?_)
      refine bv_iload_n 11 rfl C d_B_countChunks_10 rfl ?_
      refine bv_aload_n 12 rfl C d_B_countChunks_11 rfl ?_
      refine bv_get 0 2 15 rfl C k_B (by omega) rfl h0 (by decide) t1_148 rfl d_B_countChunks_12 ?_
      refine bv_iload_n 16 rfl C d_B_countChunks_15 rfl ?_
      refine bv_aald 3 4 i 17 rfl C rfl (by omega) rfl hf rfl (by omega) (by decide) d_B_countChunks_16 (hf' i (by omega)) ?_
      refine bv_call (rest := [.int r]) 20 rfl C d_B_countChunks_17 (ct_K_isFree (k := 13 + 2 * i) (by omega) a1) i_K_isFree t1_5 (fun H locs ls hP => bs_VN (av := []) (13+2*i) C i_K_isFree n1_213 t1_215 s_4 (by omega) rfl a1 rfl (by decide) rfl rfl d_B_countChunks_17 H locs ls hP) ⟨by first | decide | omega, by first | decide | omega⟩ (by decide) (by decide) (Nat.le_of_ble_eq_true rfl) (fun v ad1 w1 N1 hpo => ?_) (fun x Cn ad' w' N' hth => hth.elim)
      obtain ⟨rfl, rfl, rfl, rfl⟩ := hpo
      refine bv_if_eq 27 23 rfl C d_B_countChunks_20 (by decide) (fun x1 => ?_) (fun x1 => ?_)
      · refine bv_iconst (v := nI 1) 28 rfl C d_B_countChunks_27 (by decide) ?_
        exact go _
      · refine bv_iconst (v := nI 0) 24 rfl C d_B_countChunks_23 (by decide) ?_
        refine bv_goto 28 C d_B_countChunks_24 (by decide) ?_
        exact go _
  refine bv_iconst (v := nI 0) 1 rfl C d_B_countChunks_0 (by decide) ?_
  refine bv_istore_n 2 rfl C d_B_countChunks_1 (by decide) ?_
  refine bv_iconst (v := nI 0) 3 rfl C d_B_countChunks_2 (by decide) ?_
  refine bv_istore_n 4 rfl C d_B_countChunks_3 (by decide) ?_
  refine bv_wk [(0, .ref (ad 0)), (1, .int (nI 0)), (2, .int (nI 0))] ⟨rfl, rfl, rfl, trivial⟩ ?_
  exact loop 48 0 _ (by omega)
theorem j_B_countOpenSessions (hI : II dd ad w) : bK l dd y_B_countOpenSessions 0 0 0 0 [.ref (ad 0)] ad w 324 (bSame ad w 324 vI) (bNo) := by
  obtain ⟨V, hV, h0⟩ := hI.k0 (k := 0) (by decide) (by decide)
  obtain ⟨so, sb, sk, ⟨f, hf, hf'⟩, hs⟩ := hI.ss
  refine bK.start [(0, .ref (ad 0))] (by decide) t2_46 (Nat.le_of_ble_eq_true rfl) rfl (fun p e s m args below meth c A hnm C => ?_)
  have loop : ∀ (d i : Nat) (r : Int32), i + d = 5 → bV p l e { frames := 0, cells := 0, slots := 0, locals := 0 } s m args below meth c dd A 3 0 0 (bSame ad w 324 vI) (bNo) 4 (bO [(0, .ref (ad 0)), (1, .int r), (2, .int (nI i))]) [] ad w 324 0 0 := by
    intro d
    induction d with
    | zero =>
      intro i r hi
      obtain rfl : i = 5 := by omega
      refine bv_iload_n 5 rfl C d_B_countOpenSessions_4 rfl ?_
      refine bv_iconst (v := nI 5) 6 rfl C d_B_countOpenSessions_5 (by decide) ?_
      refine bv_icmp_ge 35 9 rfl C d_B_countOpenSessions_6 (by decide) (fun h => ?_) (fun h => absurd (nI_le (by decide) (by decide)) h)
      refine bv_iload_n 36 rfl C d_B_countOpenSessions_35 rfl ?_
      exact bv_ireturn C rfl d_B_countOpenSessions_36 (Nat.le_refl _) (Nat.le_refl _) ⟨rfl, rfl, rfl, _, rfl⟩
    | succ d ih =>
      intro i r hi
      have go : ∀ u : Int32, bV p l e { frames := 0, cells := 0, slots := 0, locals := 0 } s m args below meth c dd A 3 0 0 (bSame ad w 324 vI) (bNo) 27 (bO [(0, .ref (ad 0)), (1, .int r), (2, .int (nI i))]) [.int u, .int r] ad w 324 0 0 := by
        intro u
        refine bv_iadd 28 rfl C d_B_countOpenSessions_27 ?_
        refine bv_istore_n 29 rfl C d_B_countOpenSessions_28 (by decide) ?_
        refine bv_iinc 32 rfl C d_B_countOpenSessions_29 rfl (by first | exact b_inc _ | rfl) (by decide) ?_
        refine bv_goto 4 C d_B_countOpenSessions_32 (by decide) ?_
        refine bv_wk [(0, .ref (ad 0)), (1, .int (r + u)), (2, .int (nI (i + 1)))] ⟨rfl, rfl, rfl, trivial⟩ ?_
        exact ih (i + 1) _ (by omega)
      refine bv_iload_n 5 rfl C d_B_countOpenSessions_4 rfl ?_
      refine bv_iconst (v := nI 5) 6 rfl C d_B_countOpenSessions_5 (by decide) ?_
      refine bv_icmp_ge 35 9 rfl C d_B_countOpenSessions_6 (by decide) (fun h => absurd h (nI_ge (by omega) (by decide))) (fun h => ?_)
      refine bv_iload_n 10 rfl C d_B_countOpenSessions_9 rfl ?_
      refine bv_aload_n 11 rfl C d_B_countOpenSessions_10 rfl ?_
      refine bv_get 0 3 14 rfl C k_B (by omega) rfl h0 (by decide) t1_149 rfl d_B_countOpenSessions_11 ?_
      refine bv_iload_n 15 rfl C d_B_countOpenSessions_14 rfl ?_
      refine bv_aald 5 5 i 16 rfl C rfl (by omega) rfl hf rfl (by omega) (by decide) d_B_countOpenSessions_15 (hf' i (by omega)) ?_
      refine bv_getN (109+14*i) 0 19 rfl C k_S (by omega) rfl (hs i (by omega)) (by decide) n1_105 rfl d_B_countOpenSessions_16 ?_
      refine bv_if_eq 26 22 rfl C d_B_countOpenSessions_19 (by decide) (fun x1 => ?_) (fun x1 => ?_)
      · refine bv_iconst (v := nI 0) 27 rfl C d_B_countOpenSessions_26 (by decide) ?_
        exact go _
      · refine bv_iconst (v := nI 1) 23 rfl C d_B_countOpenSessions_22 (by decide) ?_
        refine bv_goto 27 C d_B_countOpenSessions_23 (by decide) ?_
        exact go _
  refine bv_iconst (v := nI 0) 1 rfl C d_B_countOpenSessions_0 (by decide) ?_
  refine bv_istore_n 2 rfl C d_B_countOpenSessions_1 (by decide) ?_
  refine bv_iconst (v := nI 0) 3 rfl C d_B_countOpenSessions_2 (by decide) ?_
  refine bv_istore_n 4 rfl C d_B_countOpenSessions_3 (by decide) ?_
  refine bv_wk [(0, .ref (ad 0)), (1, .int (nI 0)), (2, .int (nI 0))] ⟨rfl, rfl, rfl, trivial⟩ ?_
  exact loop 5 0 _ (by omega)
theorem j_B_countLivingVersions (hI : II dd ad w) : bK l dd y_B_countLivingVersions 0 0 0 0 [.ref (ad 0)] ad w 324 (bSame ad w 324 vI) (bNo) := by
  obtain ⟨V, hV, h0⟩ := hI.k0 (k := 0) (by decide) (by decide)
  obtain ⟨f, hf, hf'⟩ := hI.k6 (k := 6) (by decide) (by decide)
  refine bK.start [(0, .ref (ad 0))] (by decide) t2_50 (Nat.le_of_ble_eq_true rfl) rfl (fun p e s m args below meth c A hnm C => ?_)
  have loop : ∀ (d i : Nat) (r : Int32), i + d = 40 → bV p l e { frames := 0, cells := 0, slots := 0, locals := 0 } s m args below meth c dd A 3 0 0 (bSame ad w 324 vI) (bNo) 4 (bO [(0, .ref (ad 0)), (1, .int r), (2, .int (nI i))]) [] ad w 324 0 0 := by
    intro d
    induction d with
    | zero =>
      intro i r hi
      refine bv_iload_n 5 rfl C d_B_countLivingVersions_4 rfl ?_
      refine bv_aload_n 6 rfl C d_B_countLivingVersions_5 rfl ?_
      refine bv_get 0 5 9 rfl C k_B (by omega) rfl h0 (by decide) t1_151 rfl d_B_countLivingVersions_6 ?_
      refine bv_icmp_ge 38 12 rfl C d_B_countLivingVersions_9 (by decide) (fun h => ?_) (fun h => absurd (nI_le (show V ≤ i by omega) (by omega)) h)
      refine bv_iload_n 39 rfl C d_B_countLivingVersions_38 rfl ?_
      exact bv_ireturn C rfl d_B_countLivingVersions_39 (Nat.le_refl _) (Nat.le_refl _) ⟨rfl, rfl, rfl, _, rfl⟩
    | succ d ih =>
      intro i r hi
      obtain ⟨vl, vb, vk, v1⟩ := hI.k19 (k := 179 + 3 * i) (by omega) (kd_v (by omega))
      have go : ∀ u : Int32, bV p l e { frames := 0, cells := 0, slots := 0, locals := 0 } s m args below meth c dd A 3 0 0 (bSame ad w 324 vI) (bNo) 30 (bO [(0, .ref (ad 0)), (1, .int r), (2, .int (nI i))]) [.int u, .int r] ad w 324 0 0 := by
        intro u
        refine bv_iadd 31 rfl C d_B_countLivingVersions_30 ?_
        refine bv_istore_n 32 rfl C d_B_countLivingVersions_31 (by decide) ?_
        refine bv_iinc 35 rfl C d_B_countLivingVersions_32 rfl (by first | exact b_inc _ | rfl) (by decide) ?_
        refine bv_goto 4 C d_B_countLivingVersions_35 (by decide) ?_
        refine bv_wk [(0, .ref (ad 0)), (1, .int (r + u)), (2, .int (nI (i + 1)))] ⟨rfl, rfl, rfl, trivial⟩ ?_
        exact ih (i + 1) _ (by omega)
      refine bv_iload_n 5 rfl C d_B_countLivingVersions_4 rfl ?_
      refine bv_aload_n 6 rfl C d_B_countLivingVersions_5 rfl ?_
      refine bv_get 0 5 9 rfl C k_B (by omega) rfl h0 (by decide) t1_151 rfl d_B_countLivingVersions_6 ?_
      refine bv_icmp_ge 38 12 rfl C d_B_countLivingVersions_9 (by decide) (fun x0 => ?_) (fun x0 => ?_)
      · refine bv_iload_n 39 rfl C d_B_countLivingVersions_38 rfl ?_
        exact bv_ireturn C rfl d_B_countLivingVersions_39 (Nat.le_refl _) (Nat.le_refl _) ⟨rfl, rfl, rfl, _, rfl⟩
      · refine bv_iload_n 13 rfl C d_B_countLivingVersions_12 rfl ?_
        refine bv_aload_n 14 rfl C d_B_countLivingVersions_13 rfl ?_
        refine bv_get 0 4 17 rfl C k_B (by omega) rfl h0 (by decide) t1_150 rfl d_B_countLivingVersions_14 ?_
        refine bv_iload_n 18 rfl C d_B_countLivingVersions_17 rfl ?_
        refine bv_aald 6 6 i 19 rfl C rfl (by omega) rfl hf rfl (by omega) (by decide) d_B_countLivingVersions_18 (hf' i (by omega)) ?_
        refine bv_getN (179+3*i) 0 22 rfl C k_V (by omega) rfl v1 (by decide) n1_130 rfl d_B_countLivingVersions_19 ?_
        refine bv_if_eq 29 25 rfl C d_B_countLivingVersions_22 (by decide) (fun x1 => ?_) (fun x1 => ?_)
        · refine bv_iconst (v := nI 0) 30 rfl C d_B_countLivingVersions_29 (by decide) ?_
          exact go _
        · refine bv_iconst (v := nI 1) 26 rfl C d_B_countLivingVersions_25 (by decide) ?_
          refine bv_goto 30 C d_B_countLivingVersions_26 (by decide) ?_
          exact go _
  refine bv_iconst (v := nI 0) 1 rfl C d_B_countLivingVersions_0 (by decide) ?_
  refine bv_istore_n 2 rfl C d_B_countLivingVersions_1 (by decide) ?_
  refine bv_iconst (v := nI 0) 3 rfl C d_B_countLivingVersions_2 (by decide) ?_
  refine bv_istore_n 4 rfl C d_B_countLivingVersions_3 (by decide) ?_
  refine bv_wk [(0, .ref (ad 0)), (1, .int (nI 0)), (2, .int (nI 0))] ⟨rfl, rfl, rfl, trivial⟩ ?_
  exact loop 40 0 _ (by omega)
theorem j_B_state {x : Int32} (hI : II dd ad w) : bK l dd y_B_state 2 42 0 0 [.ref (ad 0), .int x] ad w 324 (bSame ad w 324 vI) (bNo) := by
  obtain ⟨V, hV, h0⟩ := hI.k0 (k := 0) (by decide) (by decide)
  obtain ⟨f, hf, hf'⟩ := hI.k6 (k := 6) (by decide) (by decide)
  obtain ⟨px, py, pz, p1⟩ := hI.k1 (k := 1) (by decide) (by decide)
  refine bK.start [(0, .ref (ad 0)), (1, .int x)] (by decide) t2_38 (Nat.le_of_ble_eq_true rfl) rfl (fun p e s m args below meth c A hnm C => ?_)
  refine bv_iload_n 1 rfl C d_B_state_0 rfl ?_
  rcases b_rng x 7 (by decide) with h | ⟨k, hk, rfl⟩
  · refine bv_tabOut 144 C d_B_state_1 h (by decide) ?_
    refine bv_iconst (v := -1) 145 rfl C d_B_state_144 (by decide) ?_
    exact bv_ireturn C rfl d_B_state_145 (Nat.le_refl _) (Nat.le_refl _) ⟨rfl, rfl, rfl, _, rfl⟩
  · rcases (show k = 0 ∨ k = 1 ∨ k = 2 ∨ k = 3 ∨ k = 4 ∨ k = 5 ∨ k = 6 ∨ k = 7 by omega) with rfl | rfl | rfl | rfl | rfl | rfl | rfl | rfl
    · refine bv_tabIn 48 C d_B_state_1 (by decide) (by decide) rfl (by decide) ?_
      refine bv_aload_n 49 rfl C d_B_state_48 rfl ?_
      refine bv_call (rest := []) 52 rfl C d_B_state_49 (j_B_countChunks hI) i_B_countChunks t1_1 (fun H locs ls hP => bs_V (av := []) 0 C i_B_countChunks t2_39 t2_41 s_15 (by omega) rfl h0 rfl (by decide) rfl rfl d_B_state_49 H locs ls hP) ⟨by first | decide | omega, by first | decide | omega⟩ (by decide) (by decide) (Nat.le_of_ble_eq_true rfl) (fun v ad1 w1 N1 hpo => ?_) (fun x Cn ad' w' N' hth => hth.elim)
      obtain ⟨rfl, rfl, rfl, r, rfl⟩ := hpo
      exact bv_ireturn C rfl d_B_state_52 (Nat.le_refl _) (Nat.le_refl _) ⟨rfl, rfl, rfl, _, rfl⟩
    · refine bv_tabIn 53 C d_B_state_1 (by decide) (by decide) rfl (by decide) ?_
      refine bv_aload_n 54 rfl C d_B_state_53 rfl ?_
      refine bv_call (rest := []) 57 rfl C d_B_state_54 (j_B_countOpenSessions hI) i_B_countOpenSessions t1_1 (fun H locs ls hP => bs_V (av := []) 0 C i_B_countOpenSessions t2_43 t2_45 s_16 (by omega) rfl h0 rfl (by decide) rfl rfl d_B_state_54 H locs ls hP) ⟨by first | decide | omega, by first | decide | omega⟩ (by decide) (by decide) (Nat.le_of_ble_eq_true rfl) (fun v ad1 w1 N1 hpo => ?_) (fun x Cn ad' w' N' hth => hth.elim)
      obtain ⟨rfl, rfl, rfl, r, rfl⟩ := hpo
      exact bv_ireturn C rfl d_B_state_57 (Nat.le_refl _) (Nat.le_refl _) ⟨rfl, rfl, rfl, _, rfl⟩
    · refine bv_tabIn 58 C d_B_state_1 (by decide) (by decide) rfl (by decide) ?_
      refine bv_aload_n 59 rfl C d_B_state_58 rfl ?_
      refine bv_call (rest := []) 62 rfl C d_B_state_59 (j_B_countLivingVersions hI) i_B_countLivingVersions t1_1 (fun H locs ls hP => bs_V (av := []) 0 C i_B_countLivingVersions t2_47 t2_49 s_17 (by omega) rfl h0 rfl (by decide) rfl rfl d_B_state_59 H locs ls hP) ⟨by first | decide | omega, by first | decide | omega⟩ (by decide) (by decide) (Nat.le_of_ble_eq_true rfl) (fun v ad1 w1 N1 hpo => ?_) (fun x Cn ad' w' N' hth => hth.elim)
      obtain ⟨rfl, rfl, rfl, r, rfl⟩ := hpo
      exact bv_ireturn C rfl d_B_state_62 (Nat.le_refl _) (Nat.le_refl _) ⟨rfl, rfl, rfl, _, rfl⟩
    · refine bv_tabIn 63 C d_B_state_1 (by decide) (by decide) rfl (by decide) ?_
      refine bv_aload_n 64 rfl C d_B_state_63 rfl ?_
      refine bv_get 0 5 67 rfl C k_B (by omega) rfl h0 (by decide) t1_151 rfl d_B_state_64 ?_
      exact bv_ireturn C rfl d_B_state_67 (Nat.le_refl _) (Nat.le_refl _) ⟨rfl, rfl, rfl, _, rfl⟩
    · refine bv_tabIn 68 C d_B_state_1 (by decide) (by decide) rfl (by decide) ?_
      refine bv_aload_n 69 rfl C d_B_state_68 rfl ?_
      refine bv_get 0 0 72 rfl C k_B (by omega) rfl h0 (by decide) t1_146 rfl d_B_state_69 ?_
      refine bv_getN 1 0 75 rfl C k_P (by omega) rfl p1 (by decide) n1_35 rfl d_B_state_72 ?_
      exact bv_ireturn C rfl d_B_state_75 (Nat.le_refl _) (Nat.le_refl _) ⟨rfl, rfl, rfl, _, rfl⟩
    · refine bv_tabIn 76 C d_B_state_1 (by decide) (by decide) rfl (by decide) ?_
      refine bv_aload_n 77 rfl C d_B_state_76 rfl ?_
      refine bv_get 0 0 80 rfl C k_B (by omega) rfl h0 (by decide) t1_146 rfl d_B_state_77 ?_
      refine bv_getN 1 2 83 rfl C k_P (by omega) rfl p1 (by decide) n1_38 rfl d_B_state_80 ?_
      refine bv_if_eq 90 86 rfl C d_B_state_83 (by decide) (fun x1 => ?_) (fun x1 => ?_)
      · refine bv_iconst (v := nI 0) 91 rfl C d_B_state_90 (by decide) ?_
        exact bv_ireturn C rfl d_B_state_91 (Nat.le_refl _) (Nat.le_refl _) ⟨rfl, rfl, rfl, _, rfl⟩
      · refine bv_iconst (v := nI 1) 87 rfl C d_B_state_86 (by decide) ?_
        refine bv_goto 91 C d_B_state_87 (by decide) ?_
        exact bv_ireturn C rfl d_B_state_91 (Nat.le_refl _) (Nat.le_refl _) ⟨rfl, rfl, rfl, _, rfl⟩
    · refine bv_tabIn 92 C d_B_state_1 (by decide) (by decide) rfl (by decide) ?_
      refine bv_aload_n 93 rfl C d_B_state_92 rfl ?_
      refine bv_get 0 5 96 rfl C k_B (by omega) rfl h0 (by decide) t1_151 rfl d_B_state_93 ?_
      refine bv_if_ne 103 99 rfl C d_B_state_96 (by decide) (fun x1 => ?_) (fun x1 => ?_)
      · have hV0 : 0 < V := Nat.pos_of_ne_zero (fun q => x1 (by rw [q]; decide))
        obtain ⟨vl, vb, vk, v1⟩ := hI.k19 (k := 179 + 3 * (V - 1)) (by omega) (kd_v (by omega))
        refine bv_aload_n 104 rfl C d_B_state_103 rfl ?_
        refine bv_get 0 4 107 rfl C k_B (by omega) rfl h0 (by decide) t1_150 rfl d_B_state_104 ?_
        refine bv_aload_n 108 rfl C d_B_state_107 rfl ?_
        refine bv_get 0 5 111 rfl C k_B (by omega) rfl h0 (by decide) t1_151 rfl d_B_state_108 ?_
        refine bv_iconst (v := nI 1) 112 rfl C d_B_state_111 (by decide) ?_
        refine bv_isub 113 rfl C d_B_state_112 ?_
        refine bv_seti (nI (V-1)) (pk_sub hV0) ?_
        refine bv_aald 6 6 (V-1) 114 rfl C rfl (by omega) rfl hf rfl (by omega) (by decide) d_B_state_113 (hf' (V-1) (by omega)) ?_
        refine bv_getN (179+3*(V-1)) 1 117 rfl C k_V (by omega) rfl v1 (by decide) n1_132 rfl d_B_state_114 ?_
        exact bv_ireturn C rfl d_B_state_117 (Nat.le_refl _) (Nat.le_refl _) ⟨rfl, rfl, rfl, _, rfl⟩
      · refine bv_iconst (v := -1) 100 rfl C d_B_state_99 (by decide) ?_
        refine bv_goto 117 C d_B_state_100 (by decide) ?_
        exact bv_ireturn C rfl d_B_state_117 (Nat.le_refl _) (Nat.le_refl _) ⟨rfl, rfl, rfl, _, rfl⟩
    · refine bv_tabIn 118 C d_B_state_1 (by decide) (by decide) rfl (by decide) ?_
      refine bv_aload_n 119 rfl C d_B_state_118 rfl ?_
      refine bv_get 0 5 122 rfl C k_B (by omega) rfl h0 (by decide) t1_151 rfl d_B_state_119 ?_
      refine bv_if_ne 129 125 rfl C d_B_state_122 (by decide) (fun x1 => ?_) (fun x1 => ?_)
      · have hV0 : 0 < V := Nat.pos_of_ne_zero (fun q => x1 (by rw [q]; decide))
        obtain ⟨vl, vb, vk, v1⟩ := hI.k19 (k := 179 + 3 * (V - 1)) (by omega) (kd_v (by omega))
        refine bv_aload_n 130 rfl C d_B_state_129 rfl ?_
        refine bv_get 0 4 133 rfl C k_B (by omega) rfl h0 (by decide) t1_150 rfl d_B_state_130 ?_
        refine bv_aload_n 134 rfl C d_B_state_133 rfl ?_
        refine bv_get 0 5 137 rfl C k_B (by omega) rfl h0 (by decide) t1_151 rfl d_B_state_134 ?_
        refine bv_iconst (v := nI 1) 138 rfl C d_B_state_137 (by decide) ?_
        refine bv_isub 139 rfl C d_B_state_138 ?_
        refine bv_seti (nI (V-1)) (pk_sub hV0) ?_
        refine bv_aald 6 6 (V-1) 140 rfl C rfl (by omega) rfl hf rfl (by omega) (by decide) d_B_state_139 (hf' (V-1) (by omega)) ?_
        refine bv_getN (179+3*(V-1)) 2 143 rfl C k_V (by omega) rfl v1 (by decide) n1_134 rfl d_B_state_140 ?_
        exact bv_ireturn C rfl d_B_state_143 (Nat.le_refl _) (Nat.le_refl _) ⟨rfl, rfl, rfl, _, rfl⟩
      · refine bv_iconst (v := -1) 126 rfl C d_B_state_125 (by decide) ?_
        refine bv_goto 143 C d_B_state_126 (by decide) ?_
        exact bv_ireturn C rfl d_B_state_143 (Nat.le_refl _) (Nat.le_refl _) ⟨rfl, rfl, rfl, _, rfl⟩
end bQ6

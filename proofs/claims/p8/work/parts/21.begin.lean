abbrev oB (ad : Nat → Nat) (ve : Int32) : va_E := .inr (6, [.ref (ad 1), .ref (ad 2), .ref (ad 4), .ref (ad 5), .ref (ad 6), .int ve, .ref (ad 7), .ref (ad 8), .ref (ad 10), .ref (ad 12)])
/-- the sessions' own cells -/
def bSs (dd : bD) (ad : Nat → Nat) (w : Nat → va_E) (so sb sk : Nat → Int32) : Prop := (∃ f, w 5 = aR dd 5 5 f ∧ ∀ j, j < 5 → f j = some (ad (109 + 14 * j))) ∧ ∀ j, j < 5 → w (109 + 14 * j) = .inr (3, [.int (so j), .int (sb j), .int (sk j), .ref (ad (109 + 14 * j + 1))])
section bBg
variable {p : Program} {l : Launch} {e : Env} {R : Room} {s : State} {m : MethodId} {args : Array Value} {below : List Frame} {meth : Method} {c : Code} {dd : bD} {A : Nat → Prop} {mc ms : Nat} {post : Option Value → (Nat → Nat) → (Nat → va_E) → Nat → Prop} {thr : String → (Nat → Nat) → (Nat → va_E) → Nat → Prop} {ad : Nat → Nat} {w : Nat → va_E} {N cells slots : Nat} {ve : Int32} {so sb sk : Nat → Int32}
theorem lp_least (C : bCx p R s m args meth c c_B_leastClosedSession R_B 2 (some .int) [] dd A) (hN : 305 ≤ N) (h0 : w 0 = oB ad ve) (hS : bSs dd ad w so sb sk)
    (hx : (∀ j, j < 5 → ¬ so j = 0) → bV p l e R s m args below meth c dd A 2 mc ms post thr 27 (bO []) [] ad w N cells slots)
    (hr : ∀ i, i < 5 → so i = 0 → (∀ j, j < i → ¬ so j = 0) → bV p l e R s m args below meth c dd A 2 mc ms post thr 20 (bO []) [.int (nI i)] ad w N cells slots) :
    ∀ (d i : Nat), i + d = 5 → (∀ j, j < i → ¬ so j = 0) → bV p l e R s m args below meth c dd A 2 mc ms post thr 2 (bO [(0, .ref (ad 0)), (1, .int (nI i))]) [] ad w N cells slots := by
  intro d
  obtain ⟨⟨f, hf, hf'⟩, hs⟩ := hS
  induction d with
  | zero =>
    intro i hi hj
    obtain rfl : i = 5 := by omega
    refine bv_iload_n 3 rfl C d_B_leastClosedSession_2 rfl ?_
    refine bv_iconst (v := nI 5) 4 rfl C d_B_leastClosedSession_3 (by decide) ?_
    refine bv_icmp_ge 27 7 rfl C d_B_leastClosedSession_4 (by decide) (fun h => ?_) (fun h => absurd (nI_le (by decide) (by decide)) h)
    refine bv_wk [] trivial ?_
    exact hx hj
  | succ d ih =>
    intro i hi hj
    refine bv_iload_n 3 rfl C d_B_leastClosedSession_2 rfl ?_
    refine bv_iconst (v := nI 5) 4 rfl C d_B_leastClosedSession_3 (by decide) ?_
    refine bv_icmp_ge 27 7 rfl C d_B_leastClosedSession_4 (by decide) (fun h => absurd h (nI_ge (by omega) (by decide))) (fun h => ?_)
    refine bv_aload_n 8 rfl C d_B_leastClosedSession_7 rfl ?_
    refine bv_get 0 3 11 rfl C k_B (by omega) rfl h0 (by decide) t1_149 rfl d_B_leastClosedSession_8 ?_
    refine bv_iload_n 12 rfl C d_B_leastClosedSession_11 rfl ?_
    refine bv_aald 5 5 i 13 rfl C rfl (by omega) rfl hf rfl (by omega) (by decide) d_B_leastClosedSession_12 (hf' i (by omega)) ?_
    refine bv_getN (109 + 14 * i) 0 16 rfl C k_S (by omega) rfl (hs i (by omega)) (by decide) n1_105 rfl d_B_leastClosedSession_13 ?_
    refine bv_if_ne 21 19 rfl C d_B_leastClosedSession_16 (by decide) (fun h => ?_) (fun h => ?_)
    · refine bv_iinc 24 rfl C d_B_leastClosedSession_21 rfl (by first | exact b_inc _ | rfl) (by decide) ?_
      refine bv_goto 2 C d_B_leastClosedSession_24 (by decide) ?_
      refine bv_wk [(0, .ref (ad 0)), (1, .int (nI (i + 1)))] ⟨rfl, rfl, trivial⟩ ?_
      exact ih (i + 1) (by omega) (fun j hj1 => by
        by_cases hji : j = i
        · rw [hji]; exact h
        · exact hj j (by omega))
    · refine bv_iload_n 20 rfl C d_B_leastClosedSession_19 rfl ?_
      refine bv_wk [] trivial ?_
      exact hr i (by omega) h hj
theorem ct_B_leastClosedSession (hN : 305 ≤ N) (h0 : w 0 = oB ad ve) (hS : bSs dd ad w so sb sk) : bK l dd y_B_leastClosedSession 0 0 0 0 [.ref (ad 0)] ad w N (bSame ad w N (fun v => (v = some (.int (-1)) ∧ ∀ j, j < 5 → ¬ so j = 0) ∨ ∃ i, i < 5 ∧ so i = 0 ∧ (∀ j, j < i → ¬ so j = 0) ∧ v = some (.int (nI i)))) bNo := by
  refine bK.start [(0, .ref (ad 0))] (by decide) t2_138 (Nat.le_of_ble_eq_true rfl) rfl (fun p e s m args below meth c A hnm C => ?_)
  refine bv_iconst (v := nI 0) 1 rfl C d_B_leastClosedSession_0 (by decide) ?_
  refine bv_istore_n 2 rfl C d_B_leastClosedSession_1 (by decide) ?_
  refine bv_wk [(0, .ref (ad 0)), (1, .int (nI 0))] ⟨rfl, rfl, trivial⟩ ?_
  refine lp_least C hN h0 hS (fun hj => ?_) (fun i hi ho hj => ?_) 5 0 rfl (fun j hj => absurd hj (Nat.not_lt_zero j))
  · refine bv_iconst (v := -1) 28 rfl C d_B_leastClosedSession_27 (by decide) ?_
    exact bv_ireturn C rfl d_B_leastClosedSession_28 (Nat.le_refl _) (Nat.le_refl _) ⟨rfl, rfl, rfl, Or.inl ⟨rfl, hj⟩⟩
  · exact bv_ireturn C rfl d_B_leastClosedSession_20 (Nat.le_refl _) (Nat.le_refl _) ⟨rfl, rfl, rfl, Or.inr ⟨i, hi, ho, hj, rfl⟩⟩
/-- the rows of a session at key k: its array and the rows, of lengths pl -/
def bPs (dd : bD) (ad : Nat → Nat) (w : Nat → va_E) (k : Nat) (pl : Nat → Int32) : Prop := (∃ f, w (k + 1) = aR dd 4 6 f ∧ ∀ j, j < 6 → f j = some (ad (k + 2 + 2 * j))) ∧ ∀ j, j < 6 → w (k + 2 + 2 * j) = .inr (2, [.ref (ad (k + 3 + 2 * j)), .int (pl j)])
theorem lp_start (C : bCx p R s m args meth c c_S_start R_S 4 none [] dd A) {k : Nat} {pl : Nat → Int32} {x y z : Int32} (hN : k + 14 ≤ N) (hk : w k = .inr (3, [.int x, .int y, .int z, .ref (ad (k + 1))])) (hP : bPs dd ad w k pl)
    (hx : ∀ w1 : Nat → va_E, (∀ j, j < 6 → w1 (k + 2 + 2 * j) = .inr (2, [.ref (ad (k + 3 + 2 * j)), .int (nI 0)])) → (∀ q, (∀ j, j < 6 → q ≠ k + 2 + 2 * j) → w1 q = w q) → bV p l e R s m args below meth c dd A 4 mc ms post thr 39 (bO []) [] ad w1 N cells slots) :
    ∀ (d i : Nat) (w1 : Nat → va_E), i + d = 6 → (∀ j, j < i → w1 (k + 2 + 2 * j) = .inr (2, [.ref (ad (k + 3 + 2 * j)), .int (nI 0)])) → (∀ q, (∀ j, j < i → q ≠ k + 2 + 2 * j) → w1 q = w q) → bV p l e R s m args below meth c dd A 4 mc ms post thr 17 (bO [(0, .ref (ad k)), (3, .int (nI i))]) [] ad w1 N cells slots := by
  intro d
  obtain ⟨⟨f, hf, hf'⟩, hs⟩ := hP
  induction d with
  | zero =>
    intro i w1 hi h1 h2
    obtain rfl : i = 6 := by omega
    refine bv_iload_n 18 rfl C d_S_start_17 rfl ?_
    refine bv_bipush (v := nI 6) 20 rfl C d_S_start_18 (by decide) ?_
    refine bv_icmp_ge 39 23 rfl C d_S_start_20 (by decide) (fun h => ?_) (fun h => absurd (nI_le (by decide) (by decide)) h)
    refine bv_wk [] trivial ?_
    exact hx w1 h1 h2
  | succ d ih =>
    intro i w1 hi h1 h2
    refine bv_iload_n 18 rfl C d_S_start_17 rfl ?_
    refine bv_bipush (v := nI 6) 20 rfl C d_S_start_18 (by decide) ?_
    refine bv_icmp_ge 39 23 rfl C d_S_start_20 (by decide) (fun h => absurd h (nI_ge (by omega) (by decide))) (fun h => ?_)
    refine bv_aload_n 24 rfl C d_S_start_23 rfl ?_
    refine bv_get k 3 27 rfl C k_S (by omega) rfl ((h2 k (fun j hj => by omega)).trans hk) (by decide) t1_110 rfl d_S_start_24 ?_
    refine bv_iload_n 28 rfl C d_S_start_27 rfl ?_
    refine bv_aald 4 (k + 1) i 29 rfl C rfl (by omega) rfl ((h2 (k + 1) (fun j hj => by omega)).trans hf) rfl (by omega) (by decide) d_S_start_28 (hf' i (by omega)) ?_
    refine bv_iconst (v := nI 0) 30 rfl C d_S_start_29 (by decide) ?_
    refine bv_putN (k + 2 + 2 * i) 1 33 rfl C k_R (by omega) rfl ((h2 (k + 2 + 2 * i) (fun j hj => by omega)).trans (hs i (by omega))) (by decide) n1_72 rfl rfl rfl (Nat.le_of_ble_eq_true rfl) d_S_start_30 ?_
    refine bv_iinc 36 rfl C d_S_start_33 rfl (by first | exact b_inc _ | rfl) (by decide) ?_
    refine bv_goto 17 C d_S_start_36 (by decide) ?_
    refine bv_wk [(0, .ref (ad k)), (3, .int (nI (i + 1)))] ⟨rfl, rfl, trivial⟩ ?_
    refine ih (i + 1) _ (by omega) (fun j hj => ?_) (fun q hq => ?_)
    · by_cases hji : j = i
      · rw [hji, va_up_self]; rfl
      · rw [va_up_ne _ _ (by omega)]; exact h1 j (by omega)
    · rw [va_up_ne _ _ (hq i (by omega))]
      exact h2 q (fun j hj => hq j (by omega))
theorem ct_S_start {k : Nat} {pl : Nat → Int32} {x y z b q : Int32} (hN : k + 14 ≤ N) (hk : w k = .inr (3, [.int x, .int y, .int z, .ref (ad (k + 1))])) (hP : bPs dd ad w k pl) : bK l dd y_S_start 0 0 0 0 [.ref (ad k), .int b, .int q] ad w N (fun v ad' w' N' => ad = ad' ∧ N = N' ∧ v = none ∧ w' k = .inr (3, [.int (nI 1), .int b, .int q, .ref (ad (k + 1))]) ∧ (∀ j, j < 6 → w' (k + 2 + 2 * j) = .inr (2, [.ref (ad (k + 3 + 2 * j)), .int (nI 0)])) ∧ ∀ i, i ≠ k → (∀ j, j < 6 → i ≠ k + 2 + 2 * j) → w' i = w i) bNo := by
  refine bK.start [(0, .ref (ad k)), (1, .int b), (2, .int q)] (by decide) t2_181 (Nat.le_of_ble_eq_true rfl) rfl (fun p e s m args below meth c A hnm C => ?_)
  refine bv_aload_n 1 rfl C d_S_start_0 rfl ?_
  refine bv_iconst (v := nI 1) 2 rfl C d_S_start_1 (by decide) ?_
  refine bv_put k 0 5 rfl C k_S (by omega) rfl hk (by decide) t1_104 rfl rfl rfl (Nat.le_of_ble_eq_true rfl) d_S_start_2 ?_
  refine bv_aload_n 6 rfl C d_S_start_5 rfl ?_
  refine bv_iload_n 7 rfl C d_S_start_6 rfl ?_
  refine bv_put k 1 10 rfl C k_S (by omega) rfl (va_up_self _ _ _) (by decide) t1_106 rfl rfl rfl (Nat.le_of_ble_eq_true rfl) d_S_start_7 ?_
  refine bv_aload_n 11 rfl C d_S_start_10 rfl ?_
  refine bv_iload_n 12 rfl C d_S_start_11 rfl ?_
  refine bv_put k 2 15 rfl C k_S (by omega) rfl (va_up_self _ _ _) (by decide) t1_108 rfl rfl rfl (Nat.le_of_ble_eq_true rfl) d_S_start_12 ?_
  rw [bu_same, bu_same]
  refine bv_iconst (v := nI 0) 16 rfl C d_S_start_15 (by decide) ?_
  refine bv_istore_n 17 rfl C d_S_start_16 (by decide) ?_
  refine bv_wk [(0, .ref (ad k)), (3, .int (nI 0))] ⟨rfl, rfl, trivial⟩ ?_
  refine lp_start (w := va_up w k _) (k := k) (pl := pl) C hN (va_up_self _ _ _) ?_ (fun w1 h1 h2 => ?_) 6 0 _ rfl (fun j hj => absurd hj (Nat.not_lt_zero j)) (fun _ _ => rfl)
  · obtain ⟨⟨f, hf, hf'⟩, hs⟩ := hP
    exact ⟨⟨f, by rw [va_up_ne _ _ (by omega)]; exact hf, hf'⟩, fun j hj => by rw [va_up_ne _ _ (by omega)]; exact hs j hj⟩
  · exact bv_return C rfl d_S_start_39 (Nat.le_refl _) (Nat.le_refl _) ⟨rfl, rfl, rfl, by rw [h2 k (fun j hj => by omega), va_up_self], h1, fun i hi hj => by rw [h2 i hj, va_up_ne _ _ hi]⟩
/-- begin, with the first session closed, the power on and no cut told -/
theorem ct_B_begin (hlt : bOff l) (hN : 305 ≤ N) (h0 : w 0 = oB ad ve) (hS : bSs dd ad w so sb sk) {wr : Int32} (h1 : w 1 = .inr (1, [.int wr, .int (-1), .int (nI 0)])) (hso : so 0 = 0) {pl : Nat → Int32} (hP : bPs dd ad w 109 pl) {b q : Int32} :
    bK l dd y_B_begin 7 102 2 12 [.ref (ad 0), .int b, .int q] ad w N (bFr ad w N (fun v => v = some (.int (nI 0)) ∧ ¬ b < 0 ∧ ¬ nI 4 ≤ b ∧ ¬ q < 0 ∧ q < nI 8)) (bFrT ad w N (fun Cn => Cn = xIAE ∧ ¬ (¬ b < 0 ∧ ¬ nI 4 ≤ b ∧ ¬ q < 0 ∧ q < nI 8))) := by
  refine bK.start [(0, .ref (ad 0)), (1, .int b), (2, .int q)] (by decide) t2_60 (Nat.le_of_ble_eq_true rfl) rfl (fun p e s m args below meth c A hnm C => ?_)
  refine bv_aload_n 1 rfl C d_B_begin_0 rfl ?_
  refine bv_get 0 0 4 rfl C k_B (by omega) rfl h0 (by decide) t1_146 rfl d_B_begin_1 ?_
  refine bv_call (rest := []) 7 rfl C d_B_begin_4 (ct_P_requireOn hlt (k := 1) (by omega) h1) i_P_requireOn t1_2 (fun H locs ls hP => bs_VN (av := []) 1 C i_P_requireOn n2_61 t2_63 s_18 (by omega) rfl h1 rfl (by decide) rfl rfl d_B_begin_4 H locs ls hP) ⟨by first | decide | omega, by first | decide | omega⟩ (by decide) (by decide) (Nat.le_of_ble_eq_true rfl) (fun v ad1 w1 N1 hpo => ?_) (fun x Cn ad' w' N' hth => ?_)
  · obtain ⟨rfl, rfl, rfl, rfl, -⟩ := hpo
    refine bv_aload_n 8 rfl C d_B_begin_7 rfl ?_
    refine bv_call (rest := []) 11 rfl C d_B_begin_8 (ct_B_leastClosedSession hN h0 hS) i_B_leastClosedSession t1_1 (fun H locs ls hP => bs_V (av := []) 0 C i_B_leastClosedSession t2_135 t2_137 s_20 (by omega) rfl h0 rfl (by decide) rfl rfl d_B_begin_8 H locs ls hP) ⟨by first | decide | omega, by first | decide | omega⟩ (by decide) (by decide) (Nat.le_of_ble_eq_true rfl) (fun v ad1 w1 N1 hpo => ?_) (fun x Cn ad' w' N' hth => hth.elim)
    obtain ⟨rfl, rfl, rfl, hv⟩ := hpo
    obtain rfl : v = some (.int (nI 0)) := by
      rcases hv with ⟨-, hj⟩ | ⟨i, hi, ho, hj, rfl⟩
      · exact absurd hso (hj 0 (by decide))
      · cases i with
        | zero => rfl
        | succ n => exact absurd hso (hj 0 (by omega))
    refine bv_istore_n 12 rfl C d_B_begin_11 (by decide) ?_
    refine bv_iload_n 13 rfl C d_B_begin_12 rfl ?_
    refine bv_if_ge 26 16 rfl C d_B_begin_13 (by decide) (fun h => ?_) (fun h => absurd (show (0 : Int32) ≤ nI 0 by decide) h)
    have thr : ¬ (¬ b < 0 ∧ ¬ nI 4 ≤ b ∧ ¬ q < 0 ∧ q < nI 8) → bV p l e { frames := 7, cells := 2, slots := 12, locals := 102 } s m args below meth c dd A 4 2 12 (bFr ad w N (fun v => v = some (.int (nI 0)) ∧ ¬ b < 0 ∧ ¬ nI 4 ≤ b ∧ ¬ q < 0 ∧ q < nI 8)) (bFrT ad w N (fun Cn => Cn = xIAE ∧ ¬ (¬ b < 0 ∧ ¬ nI 4 ≤ b ∧ ¬ q < 0 ∧ q < nI 8))) 45 (bU (bO [(0, .ref (ad 0)), (1, .int b), (2, .int q)]) 3 (.int (nI 0))) [] ad w N (0 + 1 + 0) (0 + 6 + 0) := by
      intro hn
      exact bv_throw (names := ["java/lang/RuntimeException", "java/lang/Exception"]) hlt C d_B_begin_45 d_B_begin_48 d_B_begin_49 d_B_begin_51 d_B_begin_54 t2_142 t2_143 t1_13 (show ("BlobStore", 84, "no such bucket or key") ∈ bStr by simp) (by decide) (by decide) ow_B_86 rfl (by first | decide | omega) (by first | decide | omega) (by first | decide | omega) (by first | decide | omega) (by first | decide | omega) (by first | decide | omega) ⟨rfl, rfl, fun _ _ => rfl, rfl, hn⟩
    refine bv_iload_n 27 rfl C d_B_begin_26 rfl ?_
    refine bv_if_lt 45 30 rfl C d_B_begin_27 (by decide) (fun x1 => ?_) (fun x1 => ?_)
    · exact thr (fun hh => hh.1 x1)
    · refine bv_iload_n 31 rfl C d_B_begin_30 rfl ?_
      refine bv_iconst (v := nI 4) 32 rfl C d_B_begin_31 (by decide) ?_
      refine bv_icmp_ge 45 35 rfl C d_B_begin_32 (by decide) (fun x2 => ?_) (fun x2 => ?_)
      · exact thr (fun hh => hh.2.1 x2)
      · refine bv_iload_n 36 rfl C d_B_begin_35 rfl ?_
        refine bv_if_lt 45 39 rfl C d_B_begin_36 (by decide) (fun x3 => ?_) (fun x3 => ?_)
        · exact thr (fun hh => hh.2.2.1 x3)
        · refine bv_iload_n 40 rfl C d_B_begin_39 rfl ?_
          refine bv_bipush (v := nI 8) 42 rfl C d_B_begin_40 (by decide) ?_
          refine bv_icmp_lt 55 45 rfl C d_B_begin_42 (by decide) (fun x4 => ?_) (fun x4 => ?_)
          · refine bv_aload_n 56 rfl C d_B_begin_55 rfl ?_
            refine bv_get 0 0 59 rfl C k_B (by omega) rfl h0 (by decide) t1_146 rfl d_B_begin_56 ?_
            refine bv_call (rest := []) 62 rfl C d_B_begin_59 (ct_P_spendWrite hlt (k := 1) (by omega) h1) i_P_spendWrite t1_2 (fun H locs ls hP => bs_VN (av := []) 1 C i_P_spendWrite n2_158 t2_160 s_21 (by omega) rfl h1 rfl (by decide) rfl rfl d_B_begin_59 H locs ls hP) ⟨by first | decide | omega, by first | decide | omega⟩ (by decide) (by decide) (Nat.le_of_ble_eq_true rfl) (fun v ad1 w1 N1 hpo => ?_) (fun x Cn ad' w' N' hth => ?_)
            · obtain ⟨rfl, rfl, rfl, -, rfl⟩ := hpo
              refine bv_aload_n 63 rfl C d_B_begin_62 rfl ?_
              refine bv_get 0 3 66 rfl C k_B (by omega) rfl (by rw [va_up_ne _ _ (by decide)]; exact h0) (by decide) t1_149 rfl d_B_begin_63 ?_
              obtain ⟨⟨f, hf, hf'⟩, hs⟩ := hS
              refine bv_iload_n 67 rfl C d_B_begin_66 rfl ?_
              refine bv_aald 5 5 0 68 rfl C rfl (by omega) rfl (by rw [va_up_ne _ _ (by decide)]; exact hf) rfl (by omega) (by decide) d_B_begin_67 (hf' 0 (by omega)) ?_
              refine bv_iload_n 69 rfl C d_B_begin_68 rfl ?_
              refine bv_iload_n 70 rfl C d_B_begin_69 rfl ?_
              refine bv_call (rest := []) 73 rfl C d_B_begin_70 (ct_S_start (k := 109) (pl := pl) (by omega) (by rw [va_up_ne _ _ (by decide)]; exact hs 0 (by decide)) ⟨(by obtain ⟨⟨g, hg, hg'⟩, -⟩ := hP; exact ⟨g, by rw [va_up_ne _ _ (by decide)]; exact hg, hg'⟩), fun j hj => by rw [va_up_ne _ _ (by omega)]; exact hP.2 j hj⟩) i_S_start t1_6 (fun H locs ls hP => bs_VN (av := [.int b, .int q]) 109 C i_S_start n2_178 t2_180 s_22 (by omega) rfl (by rw [va_up_ne _ _ (by decide)]; exact hs 0 (by decide)) rfl (by decide) rfl rfl d_B_begin_70 H locs ls hP) ⟨by first | decide | omega, by first | decide | omega⟩ (by decide) (by decide) (Nat.le_of_ble_eq_true rfl) (fun v ad1 w1 N1 hpo => ?_) (fun x Cn ad' w' N' hth => hth.elim)
              obtain ⟨rfl, rfl, rfl, -, -, hw1⟩ := hpo
              refine bv_iload_n 74 rfl C d_B_begin_73 rfl ?_
              exact bv_ireturn C rfl d_B_begin_74 (by decide) (by decide) ⟨rfl, rfl, fun k hk => by rw [hw1 k (by omega) (fun j hj => by omega), va_up_ne _ _ (by omega)], rfl, x1, x2, x3, x4⟩
            · obtain ⟨-, -, -, hz, -⟩ := hth
              exact absurd hz (by decide)
          · exact thr (fun hh => x4 hh.2.2.2)
  · obtain ⟨-, -, -, -, hz⟩ := hth
    exact absurd rfl hz
end bBg

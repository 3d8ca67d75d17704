/-- the system behind its constructor: cells 0 to 304 -/
def FB (dd : bD) (ad : Nat → Nat) (w : Nat → va_E) : Prop :=
  (w 0 = .inr (6, [.ref (ad 1), .ref (ad 2), .ref (ad 4), .ref (ad 5), .ref (ad 6), .int (nI 0), .ref (ad 7), .ref (ad 8), .ref (ad 10), .ref (ad 12)]) ∧ w 1 = .inr (1, [.int (nI 0), .int (-1), .int (nI 0)]) ∧ w 2 = .inr (4, [.ref (ad 3)]) ∧ w 3 = aI dd 64 (fun _ => 0) ∧ w 8 = .inr (2, [.ref (ad 9), .int (nI 0)]) ∧ w 9 = aI dd 3 (fun _ => 0) ∧ w 10 = .inr (0, [.int (nI 0), .long 0, .ref (ad 11)]) ∧ w 11 = aI dd 8 (fun _ => 0) ∧ w 12 = aI dd 48 (fun _ => 0)) ∧
  ((∃ f, w 4 = aR dd 3 48 f ∧ ∀ j, j < 48 → f j = some (ad (13 + 2 * j))) ∧ ∀ j, j < 48 → w (13 + 2 * j) = .inr (0, [.int (nI 0), .long 0, .ref (ad (13 + 2 * j + 1))]) ∧ w (13 + 2 * j + 1) = aI dd 8 (fun _ => 0)) ∧
  ((∃ f, w 5 = aR dd 5 5 f ∧ ∀ j, j < 5 → f j = some (ad (109 + 14 * j))) ∧ ∀ j, j < 5 → bSesF dd ad w (109 + 14 * j)) ∧
  ((∃ f, w 6 = aR dd 6 40 f ∧ ∀ j, j < 40 → f j = some (ad (179 + 3 * j))) ∧ ∀ j, j < 40 → w (179 + 3 * j) = .inr (5, [.int (nI 0), .int (nI 0), .int (nI 0), .ref (ad (179 + 3 * j + 1))]) ∧ w (179 + 3 * j + 1) = .inr (2, [.ref (ad (179 + 3 * j + 2)), .int (nI 0)]) ∧ w (179 + 3 * j + 2) = aI dd 18 (fun _ => 0)) ∧
  ((∃ f, w 7 = aR dd 3 3 f ∧ ∀ j, j < 3 → f j = some (ad (299 + 2 * j))) ∧ ∀ j, j < 3 → w (299 + 2 * j) = .inr (0, [.int (nI 0), .long 0, .ref (ad (299 + 2 * j + 1))]) ∧ w (299 + 2 * j + 1) = aI dd 8 (fun _ => 0))
theorem FB.of {dd : bD} {ad0 ad1 ad2 ad3 ad4 : Nat → Nat} {w0 w1 w2 w3 w4 : Nat → va_E} (h0 : (w0 0 = .inr (6, [.ref (ad0 1), .ref (ad0 2), .ref (ad0 4), .ref (ad0 5), .ref (ad0 6), .int (nI 0), .ref (ad0 7), .ref (ad0 8), .ref (ad0 10), .ref (ad0 12)]) ∧ w0 1 = .inr (1, [.int (nI 0), .int (-1), .int (nI 0)]) ∧ w0 2 = .inr (4, [.ref (ad0 3)]) ∧ w0 3 = aI dd 64 (fun _ => 0) ∧ w0 8 = .inr (2, [.ref (ad0 9), .int (nI 0)]) ∧ w0 9 = aI dd 3 (fun _ => 0) ∧ w0 10 = .inr (0, [.int (nI 0), .long 0, .ref (ad0 11)]) ∧ w0 11 = aI dd 8 (fun _ => 0) ∧ w0 12 = aI dd 48 (fun _ => 0)))
    (h1 : bChI dd ad0 w0 4 13 48 48 ad1 w1) (h2 : bSeI dd ad1 w1 5 ad2 w2) (h3 : bVeI dd ad2 w2 40 ad3 w3) (h4 : bChI dd ad3 w3 7 299 3 3 ad4 w4) : FB dd ad4 w4 := by
  obtain ⟨a1, b1, ⟨f1, c1, c1'⟩, d1⟩ := h1
  obtain ⟨a2, b2, ⟨f2, c2, c2'⟩, d2⟩ := h2
  obtain ⟨a3, b3, ⟨f3, c3, c3'⟩, d3⟩ := h3
  obtain ⟨a4, b4, ⟨f4, c4, c4'⟩, d4⟩ := h4
  have A0 : ∀ j, j < 13 → ad4 j = ad0 j := fun j hj => (a4 j (by omega)).trans ((a3 j (by omega)).trans ((a2 j (by omega)).trans (a1 j hj)))
  have A1 : ∀ j, j < 109 → ad4 j = ad1 j := fun j hj => (a4 j (by omega)).trans ((a3 j (by omega)).trans (a2 j hj))
  have A2 : ∀ j, j < 179 → ad4 j = ad2 j := fun j hj => (a4 j (by omega)).trans (a3 j hj)
  have B0 : ∀ j, j < 13 → j ≠ 4 → j ≠ 5 → j ≠ 6 → j ≠ 7 → w4 j = w0 j := fun j hj n4 n5 n6 n7 => (b4 j (by omega) n7).trans ((b3 j (by omega) n6).trans ((b2 j (by omega) n5).trans (b1 j hj n4)))
  have B1 : ∀ j, j < 109 → j ≠ 5 → j ≠ 6 → j ≠ 7 → w4 j = w1 j := fun j hj n5 n6 n7 => (b4 j (by omega) n7).trans ((b3 j (by omega) n6).trans (b2 j hj n5))
  have B2 : ∀ j, j < 179 → j ≠ 6 → j ≠ 7 → w4 j = w2 j := fun j hj n6 n7 => (b4 j (by omega) n7).trans (b3 j hj n6)
  obtain ⟨e0, e1, e2, e3, e8, e9, e10, e11, e12⟩ := h0
  refine ⟨⟨?_, ?_, ?_, ?_, ?_, ?_, ?_, ?_, ?_⟩, ⟨⟨f1, ?_, fun j hj => ?_⟩, fun j hj => ⟨?_, ?_⟩⟩, ⟨⟨f2, ?_, fun j hj => ?_⟩, fun j hj => ?_⟩, ⟨⟨f3, ?_, fun j hj => ?_⟩, fun j hj => ⟨?_, ?_, ?_⟩⟩, ⟨⟨f4, c4, c4'⟩, d4⟩⟩
  · rw [B0 0 (by decide) (by decide) (by decide) (by decide) (by decide), e0, A0 1 (by decide), A0 2 (by decide), A0 4 (by decide), A0 5 (by decide), A0 6 (by decide), A0 7 (by decide), A0 8 (by decide), A0 10 (by decide), A0 12 (by decide)]
  · rw [B0 1 (by decide) (by decide) (by decide) (by decide) (by decide), e1]
  · rw [B0 2 (by decide) (by decide) (by decide) (by decide) (by decide), e2, A0 3 (by decide)]
  · rw [B0 3 (by decide) (by decide) (by decide) (by decide) (by decide), e3]
  · rw [B0 8 (by decide) (by decide) (by decide) (by decide) (by decide), e8, A0 9 (by decide)]
  · rw [B0 9 (by decide) (by decide) (by decide) (by decide) (by decide), e9]
  · rw [B0 10 (by decide) (by decide) (by decide) (by decide) (by decide), e10, A0 11 (by decide)]
  · rw [B0 11 (by decide) (by decide) (by decide) (by decide) (by decide), e11]
  · rw [B0 12 (by decide) (by decide) (by decide) (by decide) (by decide), e12]
  · rw [B1 4 (by decide) (by decide) (by decide) (by decide), c1]
  · rw [c1' j hj, A1 _ (by omega)]
  · rw [B1 _ (by omega) (by omega) (by omega) (by omega), (d1 j hj).1, A1 _ (by omega)]
  · rw [B1 _ (by omega) (by omega) (by omega) (by omega), (d1 j hj).2]
  · rw [B2 5 (by decide) (by decide) (by decide), c2]
  · rw [c2' j hj, A2 _ (by omega)]
  · exact (d2 j hj).to (fun q _ _ => A2 q (by omega)) (fun q _ _ => B2 q (by omega) (by omega) (by omega))
  · rw [b4 6 (by decide) (by decide), c3]
  · rw [c3' j hj, a4 _ (by omega)]
  · rw [b4 _ (by omega) (by omega), (d3 j hj).1, a4 _ (by omega)]
  · rw [b4 _ (by omega) (by omega), (d3 j hj).2.1, a4 _ (by omega)]
  · rw [b4 _ (by omega) (by omega), (d3 j hj).2.2]
section bBin
variable {l : Launch} {dd : bD} {ad : Nat → Nat} {w : Nat → va_E}
/-- BlobStore() -/
theorem ct_B_init {a : Nat} (ha : ad 0 = a) (hw : w 0 = .inr (6, [.null, .null, .null, .null, .null, .int 0, .null, .null, .null, .null])) : bK l dd y_B_init 3 61 304 1949 [.ref a] ad w 1 (fun v ad' w' N' => v = none ∧ N' = 305 ∧ ad' 0 = ad 0 ∧ FB dd ad' w') bNo := by
  refine bK.start [(0, .ref a)] (by decide) t1_24 (Nat.le_of_ble_eq_true rfl) rfl (fun p e s m args below meth c A hnm C => ?_)
  have e0_0 : ad 0 = a := ha
  refine bv_aload_n 1 rfl C d_B_init_0 rfl ?_
  refine bv_objInit 4 rfl C t1_25 t1_26 t1_27 (by decide) (by decide) d_B_init_1 ?_
  refine bv_aload_n 5 rfl C d_B_init_4 rfl ?_
  refine bv_new (fs := [.int 0,.int 0,.int 0]) 8 rfl C k_P t1_28 t1_29 t1_2 (by intro j hj; rcases (show j = 0 ∨ j = 1 ∨ j = 2 by omega) with rfl | rfl | rfl <;> rfl) (by decide) (by decide) d_B_init_5 (fun ad1 had1 => ?_)
  have e0_1 : ad1 0 = a := (had1 0 (by decide)).trans e0_0
  obtain ⟨q1, e1_1⟩ : ∃ q, ad1 1 = q := ⟨_, rfl⟩
  rw [e1_1]
  refine bv_dup 9 rfl C d_B_init_8 rfl ?_
  refine bv_call (rest := [.ref q1, .ref a]) 12 rfl C d_B_init_9 (ct_P_init (k := 1) (a := q1) (by decide) e1_1 (va_up_self _ _ _)) i_P_init t1_2 (fun H locs ls _ => bs_IN (av := []) C t1_32 n1_30 t1_31 rfl (by decide) rfl rfl d_B_init_9 H locs ls) ⟨by first | decide | omega, by first | decide | omega⟩ (by decide) (by decide) (Nat.le_of_ble_eq_true rfl) (fun v ad2 w2 N2 hpo => ?_) (fun x Cn ad' w' N' hth => hth.elim)
  obtain ⟨rfl, rfl, rfl, rfl⟩ := hpo
  refine bv_putF 0 0 15 rfl C k_B (by decide) e0_1 (by simp [va_up, hw]; rfl) (by decide) t1_146 rfl hnm rfl rfl rfl (Nat.le_of_ble_eq_true rfl) d_B_init_12 ?_
  refine bv_aload_n 16 rfl C d_B_init_15 rfl ?_
  refine bv_new (fs := [.null]) 19 rfl C k_H t1_46 t1_47 t1_3 (by intro j hj; rcases (show j = 0 by omega) with rfl <;> rfl) (by decide) (by decide) d_B_init_16 (fun ad2 had2 => ?_)
  have e0_2 : ad2 0 = a := (had2 0 (by decide)).trans e0_1
  have e1_2 : ad2 1 = q1 := (had2 1 (by decide)).trans e1_1
  obtain ⟨q2, e2_2⟩ : ∃ q, ad2 2 = q := ⟨_, rfl⟩
  rw [e2_2]
  refine bv_dup 20 rfl C d_B_init_19 rfl ?_
  refine bv_call (rest := [.ref q2, .ref a]) 23 rfl C d_B_init_20 (ct_H_init (k := 2) (a := q2) (by decide) e2_2 (va_up_self _ _ _)) i_H_init t1_3 (fun H locs ls _ => bs_IN (av := []) C t1_50 n1_48 t1_49 rfl (by decide) rfl rfl d_B_init_20 H locs ls) ⟨by first | decide | omega, by first | decide | omega⟩ (by decide) (by decide) (Nat.le_of_ble_eq_true rfl) (fun v ad3 w3 N3 hpo => ?_) (fun x Cn ad' w' N' hth => hth.elim)
  obtain ⟨rfl, rfl, had3, rfl⟩ := hpo
  have e0_3 : ad3 0 = a := (had3 0 (by decide)).trans e0_2
  have e1_3 : ad3 1 = q1 := (had3 1 (by decide)).trans e1_2
  have e2_3 : ad3 2 = q2 := (had3 2 (by decide)).trans e2_2
  obtain ⟨q3, e3_3⟩ : ∃ q, ad3 3 = q := ⟨_, rfl⟩
  refine bv_putF 0 1 26 rfl C k_B (by decide) e0_3 (by simp [va_up]; rfl) (by decide) t1_147 rfl hnm rfl rfl rfl (Nat.le_of_ble_eq_true rfl) d_B_init_23 ?_
  refine bv_aload_n 27 rfl C d_B_init_26 rfl ?_
  refine bv_bipush (v := nI 48) 29 rfl C d_B_init_27 (by decide) ?_
  refine bv_newq 3 48 32 rfl C rfl t1_57 (by simp) rfl (by decide) (by decide) (by decide) (by decide) d_B_init_29 (fun ad4 had4 => ?_)
  have e0_4 : ad4 0 = a := (had4 0 (by decide)).trans e0_3
  have e1_4 : ad4 1 = q1 := (had4 1 (by decide)).trans e1_3
  have e2_4 : ad4 2 = q2 := (had4 2 (by decide)).trans e2_3
  have e3_4 : ad4 3 = q3 := (had4 3 (by decide)).trans e3_3
  obtain ⟨q4, e4_4⟩ : ∃ q, ad4 4 = q := ⟨_, rfl⟩
  rw [e4_4]
  refine bv_putF 0 2 35 rfl C k_B (by decide) e0_4 (by simp [va_up]; rfl) (by decide) t1_148 rfl hnm rfl rfl rfl (Nat.le_of_ble_eq_true rfl) d_B_init_32 ?_
  refine bv_aload_n 36 rfl C d_B_init_35 rfl ?_
  refine bv_iconst (v := nI 5) 37 rfl C d_B_init_36 (by decide) ?_
  refine bv_newq 5 5 40 rfl C rfl t1_59 (by simp) rfl (by decide) (by decide) (by decide) (by decide) d_B_init_37 (fun ad5 had5 => ?_)
  have e0_5 : ad5 0 = a := (had5 0 (by decide)).trans e0_4
  have e1_5 : ad5 1 = q1 := (had5 1 (by decide)).trans e1_4
  have e2_5 : ad5 2 = q2 := (had5 2 (by decide)).trans e2_4
  have e3_5 : ad5 3 = q3 := (had5 3 (by decide)).trans e3_4
  have e4_5 : ad5 4 = q4 := (had5 4 (by decide)).trans e4_4
  obtain ⟨q5, e5_5⟩ : ∃ q, ad5 5 = q := ⟨_, rfl⟩
  rw [e5_5]
  refine bv_putF 0 3 43 rfl C k_B (by decide) e0_5 (by simp [va_up]; rfl) (by decide) t1_149 rfl hnm rfl rfl rfl (Nat.le_of_ble_eq_true rfl) d_B_init_40 ?_
  refine bv_aload_n 44 rfl C d_B_init_43 rfl ?_
  refine bv_bipush (v := nI 40) 46 rfl C d_B_init_44 (by decide) ?_
  refine bv_newq 6 40 49 rfl C rfl t1_61 (by simp) rfl (by decide) (by decide) (by decide) (by decide) d_B_init_46 (fun ad6 had6 => ?_)
  have e0_6 : ad6 0 = a := (had6 0 (by decide)).trans e0_5
  have e1_6 : ad6 1 = q1 := (had6 1 (by decide)).trans e1_5
  have e2_6 : ad6 2 = q2 := (had6 2 (by decide)).trans e2_5
  have e3_6 : ad6 3 = q3 := (had6 3 (by decide)).trans e3_5
  have e4_6 : ad6 4 = q4 := (had6 4 (by decide)).trans e4_5
  have e5_6 : ad6 5 = q5 := (had6 5 (by decide)).trans e5_5
  obtain ⟨q6, e6_6⟩ : ∃ q, ad6 6 = q := ⟨_, rfl⟩
  rw [e6_6]
  refine bv_putF 0 4 52 rfl C k_B (by decide) e0_6 (by simp [va_up]; rfl) (by decide) t1_150 rfl hnm rfl rfl rfl (Nat.le_of_ble_eq_true rfl) d_B_init_49 ?_
  refine bv_aload_n 53 rfl C d_B_init_52 rfl ?_
  refine bv_iconst (v := nI 0) 54 rfl C d_B_init_53 (by decide) ?_
  refine bv_put 0 5 57 rfl C k_B (by decide) e0_6 (by simp [va_up]; rfl) (by decide) t1_151 rfl rfl rfl (Nat.le_of_ble_eq_true rfl) d_B_init_54 ?_
  refine bv_aload_n 58 rfl C d_B_init_57 rfl ?_
  refine bv_iconst (v := nI 3) 59 rfl C d_B_init_58 (by decide) ?_
  refine bv_newq 3 3 62 rfl C rfl t1_57 (by simp) rfl (by decide) (by decide) (by decide) (by decide) d_B_init_59 (fun ad7 had7 => ?_)
  have e0_7 : ad7 0 = a := (had7 0 (by decide)).trans e0_6
  have e1_7 : ad7 1 = q1 := (had7 1 (by decide)).trans e1_6
  have e2_7 : ad7 2 = q2 := (had7 2 (by decide)).trans e2_6
  have e3_7 : ad7 3 = q3 := (had7 3 (by decide)).trans e3_6
  have e4_7 : ad7 4 = q4 := (had7 4 (by decide)).trans e4_6
  have e5_7 : ad7 5 = q5 := (had7 5 (by decide)).trans e5_6
  have e6_7 : ad7 6 = q6 := (had7 6 (by decide)).trans e6_6
  obtain ⟨q7, e7_7⟩ : ∃ q, ad7 7 = q := ⟨_, rfl⟩
  rw [e7_7]
  refine bv_putF 0 6 65 rfl C k_B (by decide) e0_7 (by simp [va_up]; rfl) (by decide) t1_152 rfl hnm rfl rfl rfl (Nat.le_of_ble_eq_true rfl) d_B_init_62 ?_
  refine bv_aload_n 66 rfl C d_B_init_65 rfl ?_
  refine bv_new (fs := [.null,.int 0]) 69 rfl C k_R t1_63 t1_64 t1_4 (by intro j hj; rcases (show j = 0 ∨ j = 1 by omega) with rfl | rfl <;> rfl) (by decide) (by decide) d_B_init_66 (fun ad8 had8 => ?_)
  have e0_8 : ad8 0 = a := (had8 0 (by decide)).trans e0_7
  have e1_8 : ad8 1 = q1 := (had8 1 (by decide)).trans e1_7
  have e2_8 : ad8 2 = q2 := (had8 2 (by decide)).trans e2_7
  have e3_8 : ad8 3 = q3 := (had8 3 (by decide)).trans e3_7
  have e4_8 : ad8 4 = q4 := (had8 4 (by decide)).trans e4_7
  have e5_8 : ad8 5 = q5 := (had8 5 (by decide)).trans e5_7
  have e6_8 : ad8 6 = q6 := (had8 6 (by decide)).trans e6_7
  have e7_8 : ad8 7 = q7 := (had8 7 (by decide)).trans e7_7
  obtain ⟨q8, e8_8⟩ : ∃ q, ad8 8 = q := ⟨_, rfl⟩
  rw [e8_8]
  refine bv_dup 70 rfl C d_B_init_69 rfl ?_
  refine bv_iconst (v := nI 3) 71 rfl C d_B_init_70 (by decide) ?_
  refine bv_call (rest := [.ref q8, .ref a]) 74 rfl C d_B_init_71 (ct_R_init3 (k := 8) (a := q8) (by decide) e8_8 (va_up_self _ _ _)) i_R_init t1_4 (fun H locs ls _ => bs_IN (av := [.int (nI 3)]) C t1_67 n1_65 t1_66 rfl (by decide) rfl rfl d_B_init_71 H locs ls) ⟨by first | decide | omega, by first | decide | omega⟩ (by decide) (by decide) (Nat.le_of_ble_eq_true rfl) (fun v ad9 w9 N9 hpo => ?_) (fun x Cn ad' w' N' hth => hth.elim)
  obtain ⟨rfl, rfl, had9, rfl⟩ := hpo
  have e0_9 : ad9 0 = a := (had9 0 (by decide)).trans e0_8
  have e1_9 : ad9 1 = q1 := (had9 1 (by decide)).trans e1_8
  have e2_9 : ad9 2 = q2 := (had9 2 (by decide)).trans e2_8
  have e3_9 : ad9 3 = q3 := (had9 3 (by decide)).trans e3_8
  have e4_9 : ad9 4 = q4 := (had9 4 (by decide)).trans e4_8
  have e5_9 : ad9 5 = q5 := (had9 5 (by decide)).trans e5_8
  have e6_9 : ad9 6 = q6 := (had9 6 (by decide)).trans e6_8
  have e7_9 : ad9 7 = q7 := (had9 7 (by decide)).trans e7_8
  have e8_9 : ad9 8 = q8 := (had9 8 (by decide)).trans e8_8
  obtain ⟨q9, e9_9⟩ : ∃ q, ad9 9 = q := ⟨_, rfl⟩
  refine bv_putF 0 7 77 rfl C k_B (by decide) e0_9 (by simp [va_up]; rfl) (by decide) t1_153 rfl hnm rfl rfl rfl (Nat.le_of_ble_eq_true rfl) d_B_init_74 ?_
  refine bv_aload_n 78 rfl C d_B_init_77 rfl ?_
  refine bv_new (fs := [.int 0,.long 0,.null]) 81 rfl C k_K t1_57 t1_79 t1_5 (by intro j hj; rcases (show j = 0 ∨ j = 1 ∨ j = 2 by omega) with rfl | rfl | rfl <;> rfl) (by decide) (by decide) d_B_init_78 (fun ad10 had10 => ?_)
  have e0_10 : ad10 0 = a := (had10 0 (by decide)).trans e0_9
  have e1_10 : ad10 1 = q1 := (had10 1 (by decide)).trans e1_9
  have e2_10 : ad10 2 = q2 := (had10 2 (by decide)).trans e2_9
  have e3_10 : ad10 3 = q3 := (had10 3 (by decide)).trans e3_9
  have e4_10 : ad10 4 = q4 := (had10 4 (by decide)).trans e4_9
  have e5_10 : ad10 5 = q5 := (had10 5 (by decide)).trans e5_9
  have e6_10 : ad10 6 = q6 := (had10 6 (by decide)).trans e6_9
  have e7_10 : ad10 7 = q7 := (had10 7 (by decide)).trans e7_9
  have e8_10 : ad10 8 = q8 := (had10 8 (by decide)).trans e8_9
  have e9_10 : ad10 9 = q9 := (had10 9 (by decide)).trans e9_9
  obtain ⟨q10, e10_10⟩ : ∃ q, ad10 10 = q := ⟨_, rfl⟩
  rw [e10_10]
  refine bv_dup 82 rfl C d_B_init_81 rfl ?_
  refine bv_call (rest := [.ref q10, .ref a]) 85 rfl C d_B_init_82 (ct_K_init (k := 10) (a := q10) (by decide) e10_10 (va_up_self _ _ _)) i_K_init t1_5 (fun H locs ls _ => bs_IN (av := []) C t1_82 n1_80 t1_81 rfl (by decide) rfl rfl d_B_init_82 H locs ls) ⟨by first | decide | omega, by first | decide | omega⟩ (by decide) (by decide) (Nat.le_of_ble_eq_true rfl) (fun v ad11 w11 N11 hpo => ?_) (fun x Cn ad' w' N' hth => hth.elim)
  obtain ⟨rfl, rfl, had11, rfl⟩ := hpo
  have e0_11 : ad11 0 = a := (had11 0 (by decide)).trans e0_10
  have e1_11 : ad11 1 = q1 := (had11 1 (by decide)).trans e1_10
  have e2_11 : ad11 2 = q2 := (had11 2 (by decide)).trans e2_10
  have e3_11 : ad11 3 = q3 := (had11 3 (by decide)).trans e3_10
  have e4_11 : ad11 4 = q4 := (had11 4 (by decide)).trans e4_10
  have e5_11 : ad11 5 = q5 := (had11 5 (by decide)).trans e5_10
  have e6_11 : ad11 6 = q6 := (had11 6 (by decide)).trans e6_10
  have e7_11 : ad11 7 = q7 := (had11 7 (by decide)).trans e7_10
  have e8_11 : ad11 8 = q8 := (had11 8 (by decide)).trans e8_10
  have e9_11 : ad11 9 = q9 := (had11 9 (by decide)).trans e9_10
  have e10_11 : ad11 10 = q10 := (had11 10 (by decide)).trans e10_10
  obtain ⟨q11, e11_11⟩ : ∃ q, ad11 11 = q := ⟨_, rfl⟩
  refine bv_putF 0 8 88 rfl C k_B (by decide) e0_11 (by simp [va_up]; rfl) (by decide) t1_154 rfl hnm rfl rfl rfl (Nat.le_of_ble_eq_true rfl) d_B_init_85 ?_
  refine bv_aload_n 89 rfl C d_B_init_88 rfl ?_
  refine bv_bipush (v := nI 48) 91 rfl C d_B_init_89 (by decide) ?_
  refine bv_newa (atype := .int) (ty := .int) (a0 := (48, .inl (fun _ => 0))) 0 48 93 rfl C rfl rfl (by intro Cn h; cases h) t1_56 (fun cA => rfl) rfl (by decide) (by decide) (by decide) (by decide) d_B_init_91 (fun ad12 had12 => ?_)
  have e0_12 : ad12 0 = a := (had12 0 (by decide)).trans e0_11
  have e1_12 : ad12 1 = q1 := (had12 1 (by decide)).trans e1_11
  have e2_12 : ad12 2 = q2 := (had12 2 (by decide)).trans e2_11
  have e3_12 : ad12 3 = q3 := (had12 3 (by decide)).trans e3_11
  have e4_12 : ad12 4 = q4 := (had12 4 (by decide)).trans e4_11
  have e5_12 : ad12 5 = q5 := (had12 5 (by decide)).trans e5_11
  have e6_12 : ad12 6 = q6 := (had12 6 (by decide)).trans e6_11
  have e7_12 : ad12 7 = q7 := (had12 7 (by decide)).trans e7_11
  have e8_12 : ad12 8 = q8 := (had12 8 (by decide)).trans e8_11
  have e9_12 : ad12 9 = q9 := (had12 9 (by decide)).trans e9_11
  have e10_12 : ad12 10 = q10 := (had12 10 (by decide)).trans e10_11
  have e11_12 : ad12 11 = q11 := (had12 11 (by decide)).trans e11_11
  obtain ⟨q12, e12_12⟩ : ∃ q, ad12 12 = q := ⟨_, rfl⟩
  rw [e12_12]
  refine bv_putF 0 9 96 rfl C k_B (by decide) e0_12 (by simp [va_up]; rfl) (by decide) t1_155 rfl hnm rfl rfl rfl (Nat.le_of_ble_eq_true rfl) d_B_init_93 ?_
  refine bv_iconst (v := nI 0) 97 rfl C d_B_init_96 (by decide) ?_
  refine bv_istore_n 98 rfl C d_B_init_97 (by decide) ?_
  refine bv_wk [(0, .ref a), (1, .int (nI 0))] ⟨rfl, rfl, trivial⟩ ?_
  refine bv_cs 12 228 (by decide) (by decide) ?_
  obtain ⟨W, hW⟩ : ∃ W : Nat → va_E, W = _ := ⟨_, rfl⟩
  refine bv_w W (fun k _ => by rw [hW]) ?_
  have H0 : (W 0 = .inr (6, [.ref (ad12 1), .ref (ad12 2), .ref (ad12 4), .ref (ad12 5), .ref (ad12 6), .int (nI 0), .ref (ad12 7), .ref (ad12 8), .ref (ad12 10), .ref (ad12 12)]) ∧ W 1 = .inr (1, [.int (nI 0), .int (-1), .int (nI 0)]) ∧ W 2 = .inr (4, [.ref (ad12 3)]) ∧ W 3 = aI dd 64 (fun _ => 0) ∧ W 8 = .inr (2, [.ref (ad12 9), .int (nI 0)]) ∧ W 9 = aI dd 3 (fun _ => 0) ∧ W 10 = .inr (0, [.int (nI 0), .long 0, .ref (ad12 11)]) ∧ W 11 = aI dd 8 (fun _ => 0) ∧ W 12 = aI dd 48 (fun _ => 0)) := by
    rw [e1_12, e2_12, e3_12, e4_12, e5_12, e6_12, e7_12, e8_12, e9_12, e10_12, e11_12, e12_12, hW]
    refine ⟨?_, ?_, ?_, ?_, ?_, ?_, ?_, ?_, ?_⟩ <;> simp [va_up, e1_1, e2_2, e3_3, e4_4, e5_5, e6_6, e7_7, e8_8, e9_9, e10_10, e11_11, e12_12]
  have z4 : W 4 = aR dd 3 48 (fun _ => none) := by rw [hW]; simp [va_up]
  have z5 : W 5 = aR dd 5 5 (fun _ => none) := by rw [hW]; simp [va_up]
  have z6 : W 6 = aR dd 6 40 (fun _ => none) := by rw [hW]; simp [va_up]
  have z7 : W 7 = aR dd 3 3 (fun _ => none) := by rw [hW]; simp [va_up]
  have z0 : W 0 = .inr (6, [.ref q1, .ref q2, .ref q4, .ref q5, .ref q6, .int (nI 0), .ref q7, .ref q8, .ref q10, .ref q12]) := by rw [H0.1, e1_12, e2_12, e4_12, e5_12, e6_12, e7_12, e8_12, e10_12, e12_12]
  refine lp_B_slots (ad := ad12) (w := W) C (by decide) (by decide) (by decide) (by decide) e0_12 e4_12 z0 rfl (fun A1 W1 h1 => ?_) 48 0 ad12 W _ _ _ rfl rfl rfl rfl ⟨fun _ _ => rfl, fun _ _ _ => rfl, ⟨fun _ => none, z4, fun j hj => absurd hj (Nat.not_lt_zero j)⟩, fun j hj => absurd hj (Nat.not_lt_zero j)⟩
  refine bv_iconst (v := nI 0) 124 rfl C d_B_init_123 (by decide) ?_
  refine bv_istore_n 125 rfl C d_B_init_124 (by decide) ?_
  refine bv_wk [(0, .ref a), (1, .int (nI 0))] ⟨rfl, rfl, trivial⟩ ?_
  have y0 := (h1.2.1 0 (by decide) (by decide)).trans z0
  refine lp_B_sess (ad := A1) (w := W1) C (by decide) (by decide) (by decide) (by decide) ((h1.1 0 (by decide)).trans e0_12) ((h1.1 5 (by decide)).trans e5_12) y0 rfl (fun A2 W2 h2 => ?_) 5 0 A1 W1 _ _ _ rfl rfl rfl rfl ⟨fun _ _ => rfl, fun _ _ _ => rfl, ⟨fun _ => none, (h1.2.1 5 (by decide) (by decide)).trans z5, fun j hj => absurd hj (Nat.not_lt_zero j)⟩, fun j hj => absurd hj (Nat.not_lt_zero j)⟩
  refine bv_iconst (v := nI 0) 150 rfl C d_B_init_149 (by decide) ?_
  refine bv_istore_n 151 rfl C d_B_init_150 (by decide) ?_
  refine bv_wk [(0, .ref a), (1, .int (nI 0))] ⟨rfl, rfl, trivial⟩ ?_
  have x0 := (h2.2.1 0 (by decide) (by decide)).trans y0
  refine lp_B_vers (ad := A2) (w := W2) C (by decide) (by decide) (by decide) (by decide) ((h2.1 0 (by decide)).trans ((h1.1 0 (by decide)).trans e0_12)) ((h2.1 6 (by decide)).trans ((h1.1 6 (by decide)).trans e6_12)) x0 rfl (fun A3 W3 h3 => ?_) 40 0 A2 W2 _ _ _ rfl rfl rfl rfl ⟨fun _ _ => rfl, fun _ _ _ => rfl, ⟨fun _ => none, (h2.2.1 6 (by decide) (by decide)).trans ((h1.2.1 6 (by decide) (by decide)).trans z6), fun j hj => absurd hj (Nat.not_lt_zero j)⟩, fun j hj => absurd hj (Nat.not_lt_zero j)⟩
  refine bv_iconst (v := nI 0) 177 rfl C d_B_init_176 (by decide) ?_
  refine bv_istore_n 178 rfl C d_B_init_177 (by decide) ?_
  refine bv_wk [(0, .ref a), (1, .int (nI 0))] ⟨rfl, rfl, trivial⟩ ?_
  have v0 := (h3.2.1 0 (by decide) (by decide)).trans x0
  refine lp_B_incoming (ad := A3) (w := W3) C (by decide) (by decide) (by decide) (by decide) ((h3.1 0 (by decide)).trans ((h2.1 0 (by decide)).trans ((h1.1 0 (by decide)).trans e0_12))) ((h3.1 7 (by decide)).trans ((h2.1 7 (by decide)).trans ((h1.1 7 (by decide)).trans e7_12))) v0 rfl (fun A4 W4 h4 => ?_) 3 0 A3 W3 _ _ _ rfl rfl rfl rfl ⟨fun _ _ => rfl, fun _ _ _ => rfl, ⟨fun _ => none, (h3.2.1 7 (by decide) (by decide)).trans ((h2.2.1 7 (by decide) (by decide)).trans ((h1.2.1 7 (by decide) (by decide)).trans z7)), fun j hj => absurd hj (Nat.not_lt_zero j)⟩, fun j hj => absurd hj (Nat.not_lt_zero j)⟩
  exact bv_return C rfl d_B_init_202 (Nat.le_refl _) (Nat.le_refl _) ⟨rfl, rfl, ((h4.1 0 (by decide)).trans ((h3.1 0 (by decide)).trans ((h2.1 0 (by decide)).trans ((h1.1 0 (by decide)).trans e0_12)))).trans ha.symm, FB.of H0 h1 h2 h3 h4⟩
end bBin

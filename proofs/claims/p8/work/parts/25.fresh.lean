/-- the slots' chunks -/
def bCs (dd : bD) (ad : Nat → Nat) (w : Nat → va_E) (cl : Nat → Int32) (cb : Nat → Int64) : Prop := (∃ f, w 4 = aR dd 3 48 f ∧ ∀ j, j < 48 → f j = some (ad (13 + 2 * j))) ∧ ∀ j, j < 48 → w (13 + 2 * j) = .inr (0, [.int (cl j), .long (cb j), .ref (ad (13 + 2 * j + 1))])
def bHas (cl : Nat → Int32) (x : Int32) : Prop := ∃ i, i < 48 ∧ x = nI i ∧ ¬ cl i = 0
/-- what state answers of an empty store -/
def stv (x : Int32) : Int32 := if x.toInt < 0 ∨ 5 < x.toInt then -1 else nI 0
section bFre
variable {p : Program} {l : Launch} {e : Env} {R : Room} {s : State} {m : MethodId} {args : Array Value} {below : List Frame} {meth : Method} {c : Code} {dd : bD} {A : Nat → Prop} {mc ms : Nat} {post : Option Value → (Nat → Nat) → (Nat → va_E) → Nat → Prop} {thr : String → (Nat → Nat) → (Nat → va_E) → Nat → Prop} {ad : Nat → Nat} {w : Nat → va_E} {N cells slots : Nat} {ve : Int32} {so sb sk : Nat → Int32} {cl : Nat → Int32} {cb : Nat → Int64}
theorem ct_B_hasChunk (hN : 305 ≤ N) (h0 : w 0 = oB ad ve) (hC : bCs dd ad w cl cb) {x : Int32} : bK l dd y_B_hasChunk 1 20 0 0 [.ref (ad 0), .int x] ad w N (bSame ad w N (fun v => (v = some (.int (nI 1)) ∧ bHas cl x) ∨ (v = some (.int (nI 0)) ∧ ¬ bHas cl x))) bNo := by
  obtain ⟨⟨f, hf, hf'⟩, hs⟩ := hC
  refine bK.start [(0, .ref (ad 0)), (1, .int x)] (by decide) t1_212 (Nat.le_of_ble_eq_true rfl) rfl (fun p e s m args below meth c A hnm C => ?_)
  refine bv_iload_n 1 rfl C d_B_hasChunk_0 rfl ?_
  refine bv_if_lt 26 4 rfl C d_B_hasChunk_1 (by decide) (fun x1 => ?_) (fun x1 => ?_)
  · refine bv_iconst (v := nI 0) 27 rfl C d_B_hasChunk_26 (by decide) ?_
    exact bv_zreturn C rfl (Or.inl rfl) d_B_hasChunk_27 (Nat.le_refl _) (Nat.le_refl _) ⟨rfl, rfl, rfl, Or.inr ⟨rfl, by rintro ⟨i, hi, rfl, -⟩; exact nI_pos (by omega) x1⟩⟩
  · refine bv_iload_n 5 rfl C d_B_hasChunk_4 rfl ?_
    refine bv_bipush (v := nI 48) 7 rfl C d_B_hasChunk_5 (by decide) ?_
    refine bv_icmp_ge 26 10 rfl C d_B_hasChunk_7 (by decide) (fun x2 => ?_) (fun x2 => ?_)
    · refine bv_iconst (v := nI 0) 27 rfl C d_B_hasChunk_26 (by decide) ?_
      exact bv_zreturn C rfl (Or.inl rfl) d_B_hasChunk_27 (Nat.le_refl _) (Nat.le_refl _) ⟨rfl, rfl, rfl, Or.inr ⟨rfl, by rintro ⟨i, hi, rfl, -⟩; exact nI_ge hi (by decide) x2⟩⟩
    · obtain ⟨i, hi, rfl⟩ : ∃ i : Nat, i < 48 ∧ x = nI i := by
        rcases pk_ix x (show 48 < 2 ^ 31 by decide) with h | h | h
        · exact absurd h x1
        · exact absurd h x2
        · exact h
      refine bv_aload_n 11 rfl C d_B_hasChunk_10 rfl ?_
      refine bv_get 0 2 14 rfl C k_B (by omega) rfl h0 (by decide) t1_148 rfl d_B_hasChunk_11 ?_
      refine bv_iload_n 15 rfl C d_B_hasChunk_14 rfl ?_
      refine bv_aald 3 4 i 16 rfl C rfl (by omega) rfl hf rfl (by omega) (by decide) d_B_hasChunk_15 (hf' i (by omega)) ?_
      refine bv_call (rest := []) 19 rfl C d_B_hasChunk_16 (ct_K_isFree (k := 13 + 2 * i) (by omega) (hs i (by omega))) i_K_isFree t1_5 (fun H locs ls hP => bs_VN (av := []) (13 + 2 * i) C i_K_isFree n1_213 t1_215 s_4 (by omega) rfl (hs i (by omega)) rfl (by decide) rfl rfl d_B_hasChunk_16 H locs ls hP) ⟨by first | decide | omega, by first | decide | omega⟩ (by decide) (by decide) (Nat.le_of_ble_eq_true rfl) (fun v ad1 w1 N1 hpo => ?_) (fun x Cn ad' w' N' hth => hth.elim)
      obtain ⟨rfl, rfl, rfl, rfl⟩ := hpo
      by_cases hz : cl i = 0
      · rw [if_pos hz]
        refine bv_if_ne 26 22 rfl C d_B_hasChunk_19 (by decide) (fun h => ?_) (fun h => absurd h (show ¬ nI 1 = 0 by decide))
        refine bv_iconst (v := nI 0) 27 rfl C d_B_hasChunk_26 (by decide) ?_
        exact bv_zreturn C rfl (Or.inl rfl) d_B_hasChunk_27 (Nat.le_refl _) (Nat.le_refl _) ⟨rfl, rfl, rfl, Or.inr ⟨rfl, by rintro ⟨j, hj, hji, hjo⟩; obtain rfl : i = j := (nI_eq (by omega) (by omega)).mp hji; exact hjo hz⟩⟩
      · rw [if_neg hz]
        refine bv_if_ne 26 22 rfl C d_B_hasChunk_19 (by decide) (fun h => absurd (show nI 0 = 0 by decide) h) (fun h => ?_)
        refine bv_iconst (v := nI 1) 23 rfl C d_B_hasChunk_22 (by decide) ?_
        refine bv_goto 27 C d_B_hasChunk_23 (by decide) ?_
        exact bv_zreturn C rfl (Or.inr rfl) d_B_hasChunk_27 (Nat.le_refl _) (Nat.le_refl _) ⟨rfl, rfl, rfl, Or.inl ⟨rfl, i, hi, rfl, hz⟩⟩
theorem ct_B_slotWith (hN : 305 ≤ N) (h0 : w 0 = oB ad ve) (hC : bCs dd ad w cl cb) (hcl : ∀ j, j < 48 → cl j = 0) {q : Nat} : bK l dd y_B_slotWith 1 20 0 0 [.ref (ad 0), .ref q] ad w N (bSame ad w N (fun v => v = some (.int (-1)))) bNo := by
  obtain ⟨⟨f, hf, hf'⟩, hs⟩ := hC
  refine bK.start [(0, .ref (ad 0)), (1, .ref q)] (by decide) t2_30 (Nat.le_of_ble_eq_true rfl) rfl (fun p e s m args below meth c A hnm C => ?_)
  have loop : ∀ (d i : Nat), i + d = 48 → bV p l e { frames := 1, cells := 0, slots := 0, locals := 20 } s m args below meth c dd A 3 0 0 (bSame ad w N (fun v => v = some (.int (-1)))) bNo 2 (bO [(0, .ref (ad 0)), (1, .ref q), (2, .int (nI i))]) [] ad w N 0 0 := by
    intro d
    induction d with
    | zero =>
      intro i hi
      obtain rfl : i = 48 := by omega
      refine bv_iload_n 3 rfl C d_B_slotWith_2 rfl ?_
      refine bv_bipush (v := nI 48) 5 rfl C d_B_slotWith_3 (by decide) ?_
      refine bv_icmp_ge 41 8 rfl C d_B_slotWith_5 (by decide) (fun h => ?_) (fun h => absurd (nI_le (by decide) (by decide)) h)
      refine bv_iconst (v := -1) 42 rfl C d_B_slotWith_41 (by decide) ?_
      exact bv_ireturn C rfl d_B_slotWith_42 (Nat.le_refl _) (Nat.le_refl _) ⟨rfl, rfl, rfl, rfl⟩
    | succ d ih =>
      intro i hi
      refine bv_iload_n 3 rfl C d_B_slotWith_2 rfl ?_
      refine bv_bipush (v := nI 48) 5 rfl C d_B_slotWith_3 (by decide) ?_
      refine bv_icmp_ge 41 8 rfl C d_B_slotWith_5 (by decide) (fun h => absurd h (nI_ge (by omega) (by decide))) (fun h => ?_)
      refine bv_aload_n 9 rfl C d_B_slotWith_8 rfl ?_
      refine bv_get 0 2 12 rfl C k_B (by omega) rfl h0 (by decide) t1_148 rfl d_B_slotWith_9 ?_
      refine bv_iload_n 13 rfl C d_B_slotWith_12 rfl ?_
      refine bv_aald 3 4 i 14 rfl C rfl (by omega) rfl hf rfl (by omega) (by decide) d_B_slotWith_13 (hf' i (by omega)) ?_
      refine bv_call (rest := []) 17 rfl C d_B_slotWith_14 (ct_K_isFree (k := 13 + 2 * i) (by omega) (hs i (by omega))) i_K_isFree t1_5 (fun H locs ls hP => bs_VN (av := []) (13 + 2 * i) C i_K_isFree n1_213 t1_215 s_4 (by omega) rfl (hs i (by omega)) rfl (by decide) rfl rfl d_B_slotWith_14 H locs ls hP) ⟨by first | decide | omega, by first | decide | omega⟩ (by decide) (by decide) (Nat.le_of_ble_eq_true rfl) (fun v ad1 w1 N1 hpo => ?_) (fun x Cn ad' w' N' hth => hth.elim)
      obtain ⟨rfl, rfl, rfl, rfl⟩ := hpo
      rw [if_pos (hcl i (by omega))]
      refine bv_if_ne 35 20 rfl C d_B_slotWith_17 (by decide) (fun h => ?_) (fun h => absurd h (show ¬ nI 1 = 0 by decide))
      refine bv_iinc 38 rfl C d_B_slotWith_35 rfl (by first | exact b_inc _ | rfl) (by decide) ?_
      refine bv_goto 2 C d_B_slotWith_38 (by decide) ?_
      refine bv_wk [(0, .ref (ad 0)), (1, .ref q), (2, .int (nI (i + 1)))] ⟨rfl, rfl, rfl, trivial⟩ ?_
      exact ih (i + 1) (by omega)
  refine bv_iconst (v := nI 0) 1 rfl C d_B_slotWith_0 (by decide) ?_
  refine bv_istore_n 2 rfl C d_B_slotWith_1 (by decide) ?_
  refine bv_wk [(0, .ref (ad 0)), (1, .ref q), (2, .int (nI 0))] ⟨rfl, rfl, rfl, trivial⟩ ?_
  exact loop 48 0 rfl
theorem ct_B_slotOf (hN : 305 ≤ N) (h0 : w 0 = oB ad ve) (hC : bCs dd ad w cl cb) (hcl : ∀ j, j < 48 → cl j = 0) (h2 : w 2 = .inr (4, [.ref (ad 3)])) {f0 : Nat → Int32} (h3 : w 3 = aI dd 64 f0) {y : Int32} {z : Int64} (h10 : w 10 = .inr (0, [.int y, .long z, .ref (ad 11)])) {g0 : Nat → Int32} (h11 : w 11 = aI dd 8 g0) {n : Int32} {x : Int64} :
    bK l dd y_B_slotOf 4 104 0 0 [.ref (ad 0), .int n, .long x] ad w N (bFr ad w N (fun v => v = some (.int (-1)))) bNo := by
  refine bK.start [(0, .ref (ad 0)), (1, .int n), (2, .long x)] (by decide) t1_236 (Nat.le_of_ble_eq_true rfl) rfl (fun p e s m args below meth c A hnm C => ?_)
  refine bv_iload_n 1 rfl C d_B_slotOf_0 rfl ?_
  refine bv_iconst (v := nI 1) 2 rfl C d_B_slotOf_1 (by decide) ?_
  refine bv_icmp_lt 11 5 rfl C d_B_slotOf_2 (by decide) (fun x1 => ?_) (fun x1 => ?_)
  · refine bv_iconst (v := -1) 12 rfl C d_B_slotOf_11 (by decide) ?_
    exact bv_ireturn C rfl d_B_slotOf_12 (Nat.le_refl _) (Nat.le_refl _) ⟨rfl, rfl, fun _ _ => rfl, rfl⟩
  · refine bv_iload_n 6 rfl C d_B_slotOf_5 rfl ?_
    refine bv_bipush (v := nI 8) 8 rfl C d_B_slotOf_6 (by decide) ?_
    refine bv_icmp_le 13 11 rfl C d_B_slotOf_8 (by decide) (fun x2 => ?_) (fun x2 => ?_)
    · refine bv_aload_n 14 rfl C d_B_slotOf_13 rfl ?_
      refine bv_get 0 8 17 rfl C k_B (by omega) rfl h0 (by decide) t1_154 rfl d_B_slotOf_14 ?_
      refine bv_iload_n 18 rfl C d_B_slotOf_17 rfl ?_
      refine bv_lload_n 19 rfl C d_B_slotOf_18 rfl ?_
      refine bv_aload_n 20 rfl C d_B_slotOf_19 rfl ?_
      refine bv_get 0 1 23 rfl C k_B (by omega) rfl h0 (by decide) t1_147 rfl d_B_slotOf_20 ?_
      refine bv_call (rest := []) 26 rfl C d_B_slotOf_23 (ct_K_fill (k := 10) hN h2 h3 (by omega) (by decide) h10 h11) i_K_fill t1_5 (fun H locs ls hP => bs_VN (av := [.int n, .long x, .ref (ad 2)]) 10 C i_K_fill n1_237 t1_239 s_8 (by omega) rfl h10 rfl (by decide) rfl rfl d_B_slotOf_23 H locs ls hP) ⟨by first | decide | omega, by first | decide | omega⟩ (by decide) (by decide) (Nat.le_of_ble_eq_true rfl) (fun v ad1 w1 N1 hpo => ?_) (fun x Cn ad' w' N' hth => hth.elim)
      obtain ⟨rfl, rfl, rfl, -, -, -, hw⟩ := hpo
      have h0' := (hw 0 (by decide) (by decide) (by decide)).trans h0
      refine bv_aload_n 27 rfl C d_B_slotOf_26 rfl ?_
      refine bv_aload_n 28 rfl C d_B_slotOf_27 rfl ?_
      refine bv_get 0 8 31 rfl C k_B (by omega) rfl h0' (by decide) t1_154 rfl d_B_slotOf_28 ?_
      refine bv_call (rest := []) 34 rfl C d_B_slotOf_31 (ct_B_slotWith (cl := cl) (cb := cb) hN h0' ⟨(by obtain ⟨⟨f, hf, hf'⟩, -⟩ := hC; exact ⟨f, (hw 4 (by decide) (by decide) (by decide)).trans hf, hf'⟩), fun j hj => (hw _ (by omega) (by omega) (by omega)).trans (hC.2 j hj)⟩ hcl) i_B_slotWith t1_1 (fun H locs ls hP => bs_V (av := [.ref (ad 10)]) 0 C i_B_slotWith t2_27 t2_29 s_13 (by omega) rfl h0' rfl (by decide) rfl rfl d_B_slotOf_31 H locs ls hP) ⟨by first | decide | omega, by first | decide | omega⟩ (by decide) (by decide) (Nat.le_of_ble_eq_true rfl) (fun v ad1 w2 N1 hpo => ?_) (fun x Cn ad' w' N' hth => hth.elim)
      obtain ⟨rfl, rfl, rfl, rfl⟩ := hpo
      exact bv_ireturn C rfl d_B_slotOf_34 (Nat.le_refl _) (Nat.le_refl _) ⟨rfl, rfl, fun k hk => hw k (by omega) (by omega) (by omega), rfl⟩
    · refine bv_iconst (v := -1) 12 rfl C d_B_slotOf_11 (by decide) ?_
      exact bv_ireturn C rfl d_B_slotOf_12 (Nat.le_refl _) (Nat.le_refl _) ⟨rfl, rfl, fun _ _ => rfl, rfl⟩
theorem ct_A_fill {k n : Nat} {f0 : Nat → Int32} {x : Int32} (hk : k < N) (hn : n < 2 ^ 31) (hw : w k = aI dd n f0) : bK l dd y_A_fill 0 0 0 0 [.ref (ad k), .int x] ad w N (fun v ad' w' N' => ad = ad' ∧ N = N' ∧ v = none ∧ ∃ f, w' = va_up w k (aI dd n f)) bNo := by
  refine bK.start [(0, .ref (ad k)), (1, .int x)] (by decide) t1_223 (Nat.le_of_ble_eq_true rfl) rfl (fun p e s m args below meth c A hnm C => ?_)
  have loop : ∀ (d i : Nat) (f : Nat → Int32), i + d = n → bV p l e { frames := 0, cells := 0, slots := 0, locals := 0 } s m args below meth c dd A 4 0 0 (fun v ad' w' N' => ad = ad' ∧ N = N' ∧ v = none ∧ ∃ f, w' = va_up w k (aI dd n f)) bNo 5 (bO [(0, .ref (ad k)), (1, .int x), (2, .int (nI i)), (3, .int (nI n))]) [] ad (va_up w k (aI dd n f)) N 0 0 := by
    intro d
    induction d with
    | zero =>
      intro i f hi
      obtain rfl : i = n := by omega
      refine bv_iload_n 6 rfl C d_A_fill_5 rfl ?_
      refine bv_iload_n 7 rfl C d_A_fill_6 rfl ?_
      refine bv_icmp_ge 20 10 rfl C d_A_fill_7 (by decide) (fun h => ?_) (fun h => absurd (nI_le (Nat.le_refl _) hn) h)
      exact bv_return C rfl d_A_fill_20 (Nat.le_refl _) (Nat.le_refl _) ⟨rfl, rfl, rfl, _, rfl⟩
    | succ d ih =>
      intro i f hi
      refine bv_iload_n 6 rfl C d_A_fill_5 rfl ?_
      refine bv_iload_n 7 rfl C d_A_fill_6 rfl ?_
      refine bv_icmp_ge 20 10 rfl C d_A_fill_7 (by decide) (fun h => absurd h (nI_ge (by omega) hn)) (fun h => ?_)
      refine bv_aload_n 11 rfl C d_A_fill_10 rfl ?_
      refine bv_iload_n 12 rfl C d_A_fill_11 rfl ?_
      refine bv_iload_n 13 rfl C d_A_fill_12 rfl ?_
      refine bv_iast k i 14 rfl C hk rfl (va_up_self _ _ _) rfl (by omega) hn d_A_fill_13 ?_
      rw [bu_same]
      refine bv_iinc 17 rfl C d_A_fill_14 rfl (by first | exact b_inc _ | rfl) (by decide) ?_
      refine bv_goto 5 C d_A_fill_17 (by decide) ?_
      refine bv_wk [(0, .ref (ad k)), (1, .int x), (2, .int (nI (i + 1))), (3, .int (nI n))] ⟨rfl, rfl, rfl, rfl, trivial⟩ ?_
      exact ih (i + 1) _ (by omega)
  refine bv_iconst (v := nI 0) 1 rfl C d_A_fill_0 (by decide) ?_
  refine bv_istore_n 2 rfl C d_A_fill_1 (by decide) ?_
  refine bv_aload_n 3 rfl C d_A_fill_2 rfl ?_
  refine bv_alen k 0 4 rfl C hk rfl hw rfl rfl d_A_fill_3 ?_
  refine bv_istore_n 5 rfl C d_A_fill_4 (by decide) ?_
  have hW : w = va_up w k (aI dd n f0) := by
    funext i
    by_cases hi : i = k
    · rw [hi, va_up_self, hw]
    · rw [va_up_ne _ _ hi]
  refine bv_w (va_up w k (aI dd n f0)) (fun k _ => by rw [← hW]) ?_
  refine bv_wk [(0, .ref (ad k)), (1, .int x), (2, .int (nI 0)), (3, .int (nI n))] ⟨rfl, rfl, rfl, rfl, trivial⟩ ?_
  exact loop n 0 f0 (by omega)
/-- countNeeds where nothing needs anything -/
theorem ct_B_countNeeds (hN : 305 ≤ N) (h0 : w 0 = oB ad (nI 0)) (hS : bSs dd ad w so sb sk) (hso : ∀ j, j < 5 → so j = 0) {f0 : Nat → Int32} (h12 : w 12 = aI dd 48 f0) : bK l dd y_B_countNeeds 1 23 0 0 [.ref (ad 0)] ad w N (fun v ad' w' N' => ad = ad' ∧ N = N' ∧ v = none ∧ ∃ f, w' = va_up w 12 (aI dd 48 f)) bNo := by
  obtain ⟨⟨g, hg, hg'⟩, hs⟩ := hS
  refine bK.start [(0, .ref (ad 0))] (by decide) t1_220 (Nat.le_of_ble_eq_true rfl) rfl (fun p e s m args below meth c A hnm C => ?_)
  refine bv_aload_n 1 rfl C d_B_countNeeds_0 rfl ?_
  refine bv_get 0 9 4 rfl C k_B (by omega) rfl h0 (by decide) t1_155 rfl d_B_countNeeds_1 ?_
  refine bv_iconst (v := nI 0) 5 rfl C d_B_countNeeds_4 (by decide) ?_
  refine bv_call (rest := []) 8 rfl C d_B_countNeeds_5 (ct_A_fill (k := 12) (by omega) (by decide) h12) i_A_fill t1_18 (fun H locs ls _ => bs_S (av := [.ref (ad 12), .int (nI 0)]) C i_A_fill t1_221 t1_222 t1_18 (by decide) rfl rfl d_B_countNeeds_5 H locs ls) ⟨by first | decide | omega, by first | decide | omega⟩ (by decide) (by decide) (Nat.le_of_ble_eq_true rfl) (fun v ad1 w1 N1 hpo => ?_) (fun x Cn ad' w' N' hth => hth.elim)
  obtain ⟨rfl, rfl, rfl, f, rfl⟩ := hpo
  have h0' : va_up w 12 (aI dd 48 f) 0 = oB ad (nI 0) := by rw [va_up_ne _ _ (by decide)]; exact h0
  have loop : ∀ (d i : Nat), i + d = 5 → bV p l e { frames := 1, cells := 0, slots := 0, locals := 23 } s m args below meth c dd A 2 0 0 (fun v ad' w' N' => ad = ad' ∧ N = N' ∧ v = none ∧ ∃ f, w' = va_up w 12 (aI dd 48 f)) bNo 10 (bO [(0, .ref (ad 0)), (1, .int (nI i))]) [] ad (va_up w 12 (aI dd 48 f)) N 0 0 := by
    intro d
    induction d with
    | zero =>
      intro i hi
      obtain rfl : i = 5 := by omega
      refine bv_iload_n 11 rfl C d_B_countNeeds_10 rfl ?_
      refine bv_iconst (v := nI 5) 12 rfl C d_B_countNeeds_11 (by decide) ?_
      refine bv_icmp_ge 46 15 rfl C d_B_countNeeds_12 (by decide) (fun h => ?_) (fun h => absurd (nI_le (by decide) (by decide)) h)
      refine bv_iconst (v := nI 0) 47 rfl C d_B_countNeeds_46 (by decide) ?_
      refine bv_istore_n 48 rfl C d_B_countNeeds_47 (by decide) ?_
      refine bv_iload_n 49 rfl C d_B_countNeeds_48 rfl ?_
      refine bv_aload_n 50 rfl C d_B_countNeeds_49 rfl ?_
      refine bv_get 0 5 53 rfl C k_B (by omega) rfl h0' (by decide) t1_151 rfl d_B_countNeeds_50 ?_
      refine bv_icmp_ge 90 56 rfl C d_B_countNeeds_53 (by decide) (fun h => ?_) (fun h => absurd (show nI 0 ≤ nI 0 by decide) h)
      exact bv_return C rfl d_B_countNeeds_90 (Nat.le_refl _) (Nat.le_refl _) ⟨rfl, rfl, rfl, _, rfl⟩
    | succ d ih =>
      intro i hi
      refine bv_iload_n 11 rfl C d_B_countNeeds_10 rfl ?_
      refine bv_iconst (v := nI 5) 12 rfl C d_B_countNeeds_11 (by decide) ?_
      refine bv_icmp_ge 46 15 rfl C d_B_countNeeds_12 (by decide) (fun h => absurd h (nI_ge (by omega) (by decide))) (fun h => ?_)
      refine bv_aload_n 16 rfl C d_B_countNeeds_15 rfl ?_
      refine bv_get 0 3 19 rfl C k_B (by omega) rfl h0' (by decide) t1_149 rfl d_B_countNeeds_16 ?_
      refine bv_iload_n 20 rfl C d_B_countNeeds_19 rfl ?_
      refine bv_aald 5 5 i 21 rfl C rfl (by omega) rfl (by rw [va_up_ne _ _ (by decide)]; exact hg) rfl (by omega) (by decide) d_B_countNeeds_20 (hg' i (by omega)) ?_
      refine bv_getN (109 + 14 * i) 0 24 rfl C k_S (by omega) rfl (by rw [va_up_ne _ _ (by omega)]; exact hs i (by omega)) (by decide) n1_105 rfl d_B_countNeeds_21 ?_
      refine bv_if_eq 40 27 rfl C d_B_countNeeds_24 (by decide) (fun h => ?_) (fun h => absurd (hso i (by omega)) h)
      refine bv_iinc 43 rfl C d_B_countNeeds_40 rfl (by first | exact b_inc _ | rfl) (by decide) ?_
      refine bv_goto 10 C d_B_countNeeds_43 (by decide) ?_
      refine bv_wk [(0, .ref (ad 0)), (1, .int (nI (i + 1)))] ⟨rfl, rfl, trivial⟩ ?_
      exact ih (i + 1) (by omega)
  refine bv_iconst (v := nI 0) 9 rfl C d_B_countNeeds_8 (by decide) ?_
  refine bv_istore_n 10 rfl C d_B_countNeeds_9 (by decide) ?_
  refine bv_wk [(0, .ref (ad 0)), (1, .int (nI 0))] ⟨rfl, rfl, trivial⟩ ?_
  exact loop 5 0 rfl
end bFre

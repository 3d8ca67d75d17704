section bCtors
variable {l : Launch} {dd : bD} {ad : Nat → Nat} {w : Nat → va_E} {N : Nat}
theorem bu_two {w : Nat → va_E} {k N : Nat} {e1 e2 e3 : va_E} (h : k ≠ N) : va_up (va_up (va_up w k e1) N e2) k e3 = va_up (va_up w N e2) k e3 := by
  funext i
  by_cases hi : i = k
  · subst hi; simp [va_up]
  · simp [va_up, hi]
theorem bu_same {w : Nat → va_E} {k : Nat} {e1 e2 : va_E} : va_up (va_up w k e1) k e2 = va_up w k e2 := by
  funext i
  by_cases hi : i = k
  · subst hi; simp [va_up]
  · simp [va_up, hi]
/-- Power() -/
theorem ct_P_init {k a : Nat} {x y z : Int32} (hk : k < N) (ha : ad k = a) (hw : w k = .inr (1, [.int x, .int y, .int z])) : bK l dd y_P_init 1 12 0 0 [.ref a] ad w N (fun v ad' w' N' => v = none ∧ N = N' ∧ ad = ad' ∧ w' = va_up w k (.inr (1, [.int (nI 0), .int (-1), .int (nI 0)]))) bNo := by
  refine bK.start [(0, .ref a)] (by decide) t1_32 (Nat.le_of_ble_eq_true rfl) rfl (fun p e s m args below meth c A hnm C => ?_)
  refine bv_aload_n 1 rfl C d_P_init_0 rfl ?_
  refine bv_objInit 4 rfl C t1_33 t1_26 t1_27 (by decide) (by decide) d_P_init_1 ?_
  refine bv_aload_n 5 rfl C d_P_init_4 rfl ?_
  refine bv_iconst (v := nI 0) 6 rfl C d_P_init_5 (by decide) ?_
  refine bv_put k 0 9 rfl C k_P hk ha hw (by decide) t1_34 rfl rfl rfl (Nat.le_of_ble_eq_true rfl) d_P_init_6 ?_
  refine bv_aload_n 10 rfl C d_P_init_9 rfl ?_
  refine bv_iconst (v := -1) 11 rfl C d_P_init_10 (by decide) ?_
  refine bv_put k 1 14 rfl C k_P hk ha (va_up_self _ _ _) (by decide) t1_36 rfl rfl rfl (Nat.le_of_ble_eq_true rfl) d_P_init_11 ?_
  refine bv_aload_n 15 rfl C d_P_init_14 rfl ?_
  refine bv_iconst (v := nI 0) 16 rfl C d_P_init_15 (by decide) ?_
  refine bv_put k 2 19 rfl C k_P hk ha (va_up_self _ _ _) (by decide) t1_37 rfl rfl rfl (Nat.le_of_ble_eq_true rfl) d_P_init_16 ?_
  exact bv_return C rfl d_P_init_19 (Nat.le_refl _) (Nat.le_refl _) ⟨rfl, rfl, rfl, by rw [bu_same, bu_same]; rfl⟩
/-- Chunk() -/
theorem ct_K_init {k a : Nat} {x : Int32} {y : Int64} {z : Value} (hk : k < N) (ha : ad k = a) (hw : w k = .inr (0, [.int x, .long y, z])) : bK l dd y_K_init 1 12 1 8 [.ref a] ad w N (fun v ad' w' N' => v = none ∧ N' = N + 1 ∧ (∀ i, i < N → ad' i = ad i) ∧ w' = va_up (va_up w N (aI dd 8 (fun _ => 0))) k (.inr (0, [.int (nI 0), .long 0, .ref (ad' N)]))) bNo := by
  refine bK.start [(0, .ref a)] (by decide) t1_82 (Nat.le_of_ble_eq_true rfl) rfl (fun p e s m args below meth c A hnm C => ?_)
  refine bv_aload_n 1 rfl C d_K_init_0 rfl ?_
  refine bv_objInit 4 rfl C t1_83 t1_26 t1_27 (by decide) (by decide) d_K_init_1 ?_
  refine bv_aload_n 5 rfl C d_K_init_4 rfl ?_
  refine bv_iconst (v := nI 0) 6 rfl C d_K_init_5 (by decide) ?_
  refine bv_put k 0 9 rfl C k_K hk ha hw (by decide) t1_84 rfl rfl rfl (Nat.le_of_ble_eq_true rfl) d_K_init_6 ?_
  refine bv_aload_n 10 rfl C d_K_init_9 rfl ?_
  refine bv_lconst (v := 0) 11 rfl C d_K_init_10 (by decide) ?_
  refine bv_put k 1 14 rfl C k_K hk ha (va_up_self _ _ _) (by decide) t1_86 rfl rfl rfl (Nat.le_of_ble_eq_true rfl) d_K_init_11 ?_
  refine bv_aload_n 15 rfl C d_K_init_14 rfl ?_
  refine bv_bipush (v := nI 8) 17 rfl C d_K_init_15 (by decide) ?_
  refine bv_newa (atype := .int) (ty := .int) (a0 := (8, .inl (fun _ => 0))) 0 8 19 rfl C rfl rfl (by intro Cn h; cases h) t1_56 (fun cA => rfl) rfl (by decide) (by decide) (by decide) (by decide) d_K_init_17 (fun ad' had => ?_)
  refine bv_putF k 2 22 rfl C k_K (Nat.lt_succ_of_lt hk) ((had k hk).trans ha) (by rw [va_up_ne _ _ (Nat.ne_of_lt hk), va_up_self]) (by decide) t1_87 rfl hnm rfl rfl rfl (Nat.le_of_ble_eq_true rfl) d_K_init_19 ?_
  exact bv_return C rfl d_K_init_22 (Nat.le_refl _) (Nat.le_refl _) ⟨rfl, rfl, had, by rw [bu_same, bu_two (Nat.ne_of_lt hk)]; rfl⟩
/-- Sha256() -/
theorem ct_H_init {k a : Nat} {z : Value} (hk : k < N) (ha : ad k = a) (hw : w k = .inr (4, [z])) : bK l dd y_H_init 1 12 1 64 [.ref a] ad w N (fun v ad' w' N' => v = none ∧ N' = N + 1 ∧ (∀ i, i < N → ad' i = ad i) ∧ w' = va_up (va_up w N (aI dd 64 (fun _ => 0))) k (.inr (4, [.ref (ad' N)]))) bNo := by
  refine bK.start [(0, .ref a)] (by decide) t1_50 (Nat.le_of_ble_eq_true rfl) rfl (fun p e s m args below meth c A hnm C => ?_)
  refine bv_aload_n 1 rfl C d_H_init_0 rfl ?_
  refine bv_objInit 4 rfl C t1_51 t1_26 t1_27 (by decide) (by decide) d_H_init_1 ?_
  refine bv_aload_n 5 rfl C d_H_init_4 rfl ?_
  refine bv_bipush (v := nI 64) 7 rfl C d_H_init_5 (by decide) ?_
  refine bv_newa (atype := .int) (ty := .int) (a0 := (64, .inl (fun _ => 0))) 0 64 9 rfl C rfl rfl (by intro Cn h; cases h) t1_56 (fun cA => rfl) rfl (by decide) (by decide) (by decide) (by decide) d_H_init_7 (fun ad' had => ?_)
  refine bv_putF k 0 12 rfl C k_H (Nat.lt_succ_of_lt hk) ((had k hk).trans ha) (by rw [va_up_ne _ _ (Nat.ne_of_lt hk), hw]) (by decide) t1_52 rfl hnm rfl rfl rfl (Nat.le_of_ble_eq_true rfl) d_H_init_9 ?_
  exact bv_return C rfl d_H_init_12 (Nat.le_refl _) (Nat.le_refl _) ⟨rfl, rfl, had, rfl⟩
/-- Row(3) -/
theorem ct_R_init3 {k a : Nat} {x : Int32} {z : Value} (hk : k < N) (ha : ad k = a) (hw : w k = .inr (2, [z, .int x])) : bK l dd y_R_init 1 12 1 3 [.ref a, .int (nI 3)] ad w N (fun v ad' w' N' => v = none ∧ N' = N + 1 ∧ (∀ i, i < N → ad' i = ad i) ∧ w' = va_up (va_up w N (aI dd 3 (fun _ => 0))) k (.inr (2, [.ref (ad' N), .int (nI 0)]))) bNo := by
  refine bK.start [(0, .ref a), (1, .int (nI 3))] (by decide) t1_67 (Nat.le_of_ble_eq_true rfl) rfl (fun p e s m args below meth c A hnm C => ?_)
  refine bv_aload_n 1 rfl C d_R_init_0 rfl ?_
  refine bv_objInit 4 rfl C t1_68 t1_26 t1_27 (by decide) (by decide) d_R_init_1 ?_
  refine bv_aload_n 5 rfl C d_R_init_4 rfl ?_
  refine bv_iconst (v := nI 0) 6 rfl C d_R_init_5 (by decide) ?_
  refine bv_put k 1 9 rfl C k_R hk ha hw (by decide) t1_71 rfl rfl rfl (Nat.le_of_ble_eq_true rfl) d_R_init_6 ?_
  refine bv_aload_n 10 rfl C d_R_init_9 rfl ?_
  refine bv_iload_n 11 rfl C d_R_init_10 rfl ?_
  refine bv_newa (atype := .int) (ty := .int) (a0 := (3, .inl (fun _ => 0))) 0 3 13 rfl C rfl rfl (by intro Cn h; cases h) t1_56 (fun cA => rfl) rfl (by decide) (by decide) (by decide) (by decide) d_R_init_11 (fun ad' had => ?_)
  refine bv_putF k 0 16 rfl C k_R (Nat.lt_succ_of_lt hk) ((had k hk).trans ha) (by rw [va_up_ne _ _ (Nat.ne_of_lt hk), va_up_self]) (by decide) t1_69 rfl hnm rfl rfl rfl (Nat.le_of_ble_eq_true rfl) d_R_init_13 ?_
  exact bv_return C rfl d_R_init_16 (Nat.le_refl _) (Nat.le_refl _) ⟨rfl, rfl, had, by rw [bu_two (Nat.ne_of_lt hk)]; rfl⟩
/-- Row(18) -/
theorem ct_R_init18 {k a : Nat} {x : Int32} {z : Value} (hk : k < N) (ha : ad k = a) (hw : w k = .inr (2, [z, .int x])) : bK l dd y_R_init 1 12 1 18 [.ref a, .int (nI 18)] ad w N (fun v ad' w' N' => v = none ∧ N' = N + 1 ∧ (∀ i, i < N → ad' i = ad i) ∧ w' = va_up (va_up w N (aI dd 18 (fun _ => 0))) k (.inr (2, [.ref (ad' N), .int (nI 0)]))) bNo := by
  refine bK.start [(0, .ref a), (1, .int (nI 18))] (by decide) t1_67 (Nat.le_of_ble_eq_true rfl) rfl (fun p e s m args below meth c A hnm C => ?_)
  refine bv_aload_n 1 rfl C d_R_init_0 rfl ?_
  refine bv_objInit 4 rfl C t1_68 t1_26 t1_27 (by decide) (by decide) d_R_init_1 ?_
  refine bv_aload_n 5 rfl C d_R_init_4 rfl ?_
  refine bv_iconst (v := nI 0) 6 rfl C d_R_init_5 (by decide) ?_
  refine bv_put k 1 9 rfl C k_R hk ha hw (by decide) t1_71 rfl rfl rfl (Nat.le_of_ble_eq_true rfl) d_R_init_6 ?_
  refine bv_aload_n 10 rfl C d_R_init_9 rfl ?_
  refine bv_iload_n 11 rfl C d_R_init_10 rfl ?_
  refine bv_newa (atype := .int) (ty := .int) (a0 := (18, .inl (fun _ => 0))) 0 18 13 rfl C rfl rfl (by intro Cn h; cases h) t1_56 (fun cA => rfl) rfl (by decide) (by decide) (by decide) (by decide) d_R_init_11 (fun ad' had => ?_)
  refine bv_putF k 0 16 rfl C k_R (Nat.lt_succ_of_lt hk) ((had k hk).trans ha) (by rw [va_up_ne _ _ (Nat.ne_of_lt hk), va_up_self]) (by decide) t1_69 rfl hnm rfl rfl rfl (Nat.le_of_ble_eq_true rfl) d_R_init_13 ?_
  exact bv_return C rfl d_R_init_16 (Nat.le_refl _) (Nat.le_refl _) ⟨rfl, rfl, had, by rw [bu_two (Nat.ne_of_lt hk)]; rfl⟩
/-- Version() -/
theorem ct_V_init {k a : Nat} {x y u : Int32} {z : Value} (hk : k < N) (ha : ad k = a) (hw : w k = .inr (5, [.int x, .int y, .int u, z])) : bK l dd y_V_init 2 40 2 20 [.ref a] ad w N (fun v ad' w' N' => v = none ∧ N' = N + 2 ∧ (∀ i, i < N → ad' i = ad i) ∧ w' = va_up (va_up (va_up w (N + 1) (aI dd 18 (fun _ => 0))) N (.inr (2, [.ref (ad' (N + 1)), .int (nI 0)]))) k (.inr (5, [.int (nI 0), .int (nI 0), .int (nI 0), .ref (ad' N)]))) bNo := by
  refine bK.start [(0, .ref a)] (by decide) t1_125 (Nat.le_of_ble_eq_true rfl) rfl (fun p e s m args below meth c A hnm C => ?_)
  refine bv_aload_n 1 rfl C d_V_init_0 rfl ?_
  refine bv_objInit 4 rfl C t1_126 t1_26 t1_27 (by decide) (by decide) d_V_init_1 ?_
  refine bv_aload_n 5 rfl C d_V_init_4 rfl ?_
  refine bv_iconst (v := nI 0) 6 rfl C d_V_init_5 (by decide) ?_
  refine bv_put k 0 9 rfl C k_V hk ha hw (by decide) t1_129 rfl rfl rfl (Nat.le_of_ble_eq_true rfl) d_V_init_6 ?_
  refine bv_aload_n 10 rfl C d_V_init_9 rfl ?_
  refine bv_iconst (v := nI 0) 11 rfl C d_V_init_10 (by decide) ?_
  refine bv_put k 1 14 rfl C k_V hk ha (va_up_self _ _ _) (by decide) t1_131 rfl rfl rfl (Nat.le_of_ble_eq_true rfl) d_V_init_11 ?_
  refine bv_aload_n 15 rfl C d_V_init_14 rfl ?_
  refine bv_iconst (v := nI 0) 16 rfl C d_V_init_15 (by decide) ?_
  refine bv_put k 2 19 rfl C k_V hk ha (va_up_self _ _ _) (by decide) t1_133 rfl rfl rfl (Nat.le_of_ble_eq_true rfl) d_V_init_16 ?_
  refine bv_aload_n 20 rfl C d_V_init_19 rfl ?_
  refine bv_new (fs := [.null,.int 0]) 23 rfl C k_R t1_127 t1_64 t1_4 (by intro j hj; rcases (show j = 0 ∨ j = 1 by omega) with rfl | rfl <;> rfl) (by decide) (by decide) d_V_init_20 (fun ad1 had => ?_)
  refine bv_dup 24 rfl C d_V_init_23 rfl ?_
  refine bv_bipush (v := nI 18) 26 rfl C d_V_init_24 (by decide) ?_
  refine bv_call (rest := [.ref (ad1 N), .ref a]) 29 rfl C d_V_init_26 (ct_R_init18 (k := N) (a := ad1 N) (Nat.lt_succ_self N) rfl (va_up_self _ _ _)) i_R_init t1_4 (fun H locs ls _ => bs_IN (av := [.int (nI 18)]) C t1_67 n1_128 t1_66 rfl (by decide) rfl rfl d_V_init_26 H locs ls) ⟨by first | decide | omega, by first | decide | omega⟩ (by decide) (by decide) (Nat.le_of_ble_eq_true rfl) (fun v ad' w' N' hpo => ?_) (fun x Cn ad' w' N' hth => ?_)
  · obtain ⟨rfl, rfl, had2, rfl⟩ := hpo
    refine bv_putF k 3 32 rfl C k_V (Nat.lt_succ_of_lt (Nat.lt_succ_of_lt hk)) ((had2 k (Nat.lt_succ_of_lt hk)).trans ((had k hk).trans ha)) (by rw [va_up_ne _ _ (Nat.ne_of_lt hk), va_up_ne _ _ (Nat.ne_of_lt (Nat.lt_succ_of_lt hk)), va_up_ne _ _ (Nat.ne_of_lt hk), va_up_self]) (by decide) t1_135 rfl hnm rfl rfl rfl (Nat.le_of_ble_eq_true rfl) d_V_init_29 ?_
    exact bv_return C rfl d_V_init_32 (Nat.le_refl _) (Nat.le_refl _) ⟨rfl, rfl, fun i hi => (had2 i (Nat.lt_succ_of_lt hi)).trans (had i hi), by rw [← had2 N (Nat.lt_succ_self N)]; (funext i; simp only [va_up]; repeat' split) <;> first | rfl | (exfalso; omega)⟩
  · exact hth.elim
end bCtors
/-- a session's cells while its rows are laid -/
def bSesI (dd : bD) (ad0 : Nat → Nat) (w0 : Nat → va_E) (k N i : Nat) (ad : Nat → Nat) (w : Nat → va_E) : Prop :=
  (∀ j, j < N → ad j = ad0 j) ∧ w k = .inr (3, [.int (nI 0), .int (nI 0), .int (nI 0), .ref (ad N)]) ∧ (∃ f, w N = aR dd 4 6 f ∧ ∀ j, j < i → f j = some (ad (N + 1 + 2 * j))) ∧ (∀ j, j < i → w (N + 1 + 2 * j) = .inr (2, [.ref (ad (N + 2 + 2 * j)), .int (nI 0)]) ∧ w (N + 2 + 2 * j) = aI dd 3 (fun _ => 0)) ∧ (∀ j, j < N → j ≠ k → w j = w0 j)
section bLoopS
variable {p : Program} {l : Launch} {e : Env} {R : Room} {s : State} {m : MethodId} {args : Array Value} {below : List Frame} {meth : Method} {c : Code} {dd : bD} {A : Nat → Prop} {mc ms : Nat} {post : Option Value → (Nat → Nat) → (Nat → va_E) → Nat → Prop} {thr : String → (Nat → Nat) → (Nat → va_E) → Nat → Prop} {ad : Nat → Nat} {w : Nat → va_E} {N : Nat}
theorem lp_S_init (C : bCx p R s m args meth c c_S_init R_S 2 none [] dd A) (hRc : 13 ≤ R.cells) (hRs : 36 ≤ R.slots) (hRf : 2 ≤ R.frames) (hRl : 40 ≤ R.locals) {k a : Nat} (hk : k < N) (ha : ad k = a)
    (hx : ∀ (ad1 : Nat → Nat) (w1 : Nat → va_E), bSesI dd ad w k N 6 ad1 w1 → bV p l e R s m args below meth c dd A 2 mc ms post thr 56 (bO [(0, .ref a), (1, .int (nI 6))]) [] ad1 w1 (N + 13) 13 36) :
    ∀ (d i : Nat) (ad1 : Nat → Nat) (w1 : Nat → va_E) (N1 c1 s1 : Nat), i + d = 6 → N1 = N + 1 + 2 * i → c1 = 1 + 2 * i → s1 = 6 + 5 * i → bSesI dd ad w k N i ad1 w1 → bV p l e R s m args below meth c dd A 2 mc ms post thr 30 (bO [(0, .ref a), (1, .int (nI i))]) [] ad1 w1 N1 c1 s1 := by
  intro d
  induction d with
  | zero =>
    intro i ad1 w1 N1 c1 s1 hi hN hc hs hI
    obtain rfl : i = 6 := by omega
    subst hN; subst hc; subst hs
    refine bv_iload_n 31 rfl C d_S_init_30 rfl ?_
    refine bv_bipush (v := nI 6) 33 rfl C d_S_init_31 (by decide) ?_
    refine bv_icmp_ge 56 36 rfl C d_S_init_33 (by decide) (fun h => ?_) (fun h => absurd (nI_le (by decide) (by decide)) h)
    exact hx ad1 w1 hI
  | succ d ih =>
    intro i ad1 w1 N1 c1 s1 hi hN hc hs hI
    obtain ⟨h1, h2, ⟨f, h3, h3'⟩, h4, h5⟩ := hI
    refine bv_iload_n 31 rfl C d_S_init_30 rfl ?_
    refine bv_bipush (v := nI 6) 33 rfl C d_S_init_31 (by decide) ?_
    refine bv_icmp_ge 56 36 rfl C d_S_init_33 (by decide) (fun h => absurd h (nI_ge (by omega) (by decide))) (fun h => ?_)
    refine bv_aload_n 37 rfl C d_S_init_36 rfl ?_
    refine bv_get k 3 40 rfl C k_S (by omega) ((h1 k hk).trans ha) h2 (by decide) t1_110 rfl d_S_init_37 ?_
    refine bv_iload_n 41 rfl C d_S_init_40 rfl ?_
    refine bv_new (fs := [.null,.int 0]) 44 rfl C k_R t1_101 t1_64 t1_4 (by intro j hj; rcases (show j = 0 ∨ j = 1 by omega) with rfl | rfl <;> rfl) (by omega) (by omega) d_S_init_41 (fun ad2 had1 => ?_)
    refine bv_dup 45 rfl C d_S_init_44 rfl ?_
    refine bv_iconst (v := nI 3) 46 rfl C d_S_init_45 (by decide) ?_
    refine bv_call (rest := [.ref (ad2 N1), .int (nI i), .ref (ad1 N)]) 49 rfl C d_S_init_46 (ct_R_init3 (k := N1) (a := ad2 N1) (Nat.lt_succ_self _) rfl (va_up_self _ _ _)) i_R_init t1_4 (fun H locs ls _ => bs_IN (av := [.int (nI 3)]) C t1_67 n1_103 t1_66 rfl (by decide) rfl rfl d_S_init_46 H locs ls) ⟨by first | decide | omega, by first | decide | omega⟩ (by omega) (by omega) (Nat.le_of_ble_eq_true rfl) (fun v ad3 w3 N3 hpo => ?_) (fun x Cn ad' w' N' hth => ?_)
    · obtain ⟨rfl, rfl, had2, rfl⟩ := hpo
      have g1 : ∀ j, j < N1 → ad3 j = ad1 j := fun j hj => (had2 j (by omega)).trans (had1 j hj)
      have g2 : ad3 N1 = ad2 N1 := had2 N1 (by omega)
      refine bv_aast 4 N i 50 N1 rfl C rfl rfl (by omega) (g1 N (by omega)) (by rw [va_up_ne _ _ (by omega), va_up_ne _ _ (by omega), va_up_ne _ _ (by omega), h3]) (by omega) g2 (va_up_self _ _ _) rfl (by omega) (by decide) d_S_init_49 ?_
      refine bv_iinc 53 rfl C d_S_init_50 rfl (by first | exact b_inc _ | rfl) (by decide) ?_
      refine bv_goto 30 C d_S_init_53 (by decide) ?_
      refine bv_wk [(0, .ref a), (1, .int (nI (i + 1)))] ⟨rfl, rfl, trivial⟩ ?_
      refine ih (i + 1) ad3 _ _ _ _ (by omega) (by omega) (by omega) (by omega) ⟨fun j hj => (g1 j (by omega)).trans (h1 j hj), ?_, ⟨_, va_up_self _ _ _, fun j hj => ?_⟩, fun j hj => ⟨?_, ?_⟩, fun j hj hjk => ?_⟩
      · rw [va_up_ne _ _ (by omega), va_up_ne _ _ (by omega), va_up_ne _ _ (by omega), va_up_ne _ _ (by omega), h2, g1 N (by omega)]
      · by_cases hji : j = i
        · subst hji
          rw [va_up_self, ← g2, hN]
        · rw [va_up_ne _ _ hji, h3' j (by omega), g1 _ (by omega)]
      · by_cases hji : j = i
        · subst hji
          rw [← hN, va_up_ne _ _ (by omega), va_up_self, show N + 2 + 2 * j = N1 + 1 by omega]
        · rw [va_up_ne _ _ (by omega), va_up_ne _ _ (by omega), va_up_ne _ _ (by omega), va_up_ne _ _ (by omega), (h4 j (by omega)).1, g1 _ (by omega)]
      · by_cases hji : j = i
        · subst hji
          rw [show N + 2 + 2 * j = N1 + 1 by omega, va_up_ne _ _ (by omega), va_up_ne _ _ (by omega), va_up_self]
        · rw [va_up_ne _ _ (by omega), va_up_ne _ _ (by omega), va_up_ne _ _ (by omega), va_up_ne _ _ (by omega), (h4 j (by omega)).2]
      · rw [va_up_ne _ _ (by omega), va_up_ne _ _ (by omega), va_up_ne _ _ (by omega), va_up_ne _ _ (by omega), h5 j hj hjk]
    · exact hth.elim
end bLoopS

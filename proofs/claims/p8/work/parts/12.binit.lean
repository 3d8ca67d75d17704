section bSin
variable {l : Launch} {dd : bD} {ad : Nat → Nat} {w : Nat → va_E} {N : Nat}
/-- Session() -/
theorem ct_S_init {k a : Nat} {x y u : Int32} {z : Value} (hk : k < N) (ha : ad k = a) (hw : w k = .inr (3, [.int x, .int y, .int u, z])) : bK l dd y_S_init 2 40 13 36 [.ref a] ad w N (fun v ad' w' N' => v = none ∧ N' = N + 13 ∧ bSesI dd ad w k N 6 ad' w') bNo := by
  refine bK.start [(0, .ref a)] (by decide) t1_99 (Nat.le_of_ble_eq_true rfl) rfl (fun p e s m args below meth c A hnm C => ?_)
  refine bv_aload_n 1 rfl C d_S_init_0 rfl ?_
  refine bv_objInit 4 rfl C t1_100 t1_26 t1_27 (by decide) (by decide) d_S_init_1 ?_
  refine bv_aload_n 5 rfl C d_S_init_4 rfl ?_
  refine bv_iconst (v := nI 0) 6 rfl C d_S_init_5 (by decide) ?_
  refine bv_put k 0 9 rfl C k_S hk ha hw (by decide) t1_104 rfl rfl rfl (Nat.le_of_ble_eq_true rfl) d_S_init_6 ?_
  refine bv_aload_n 10 rfl C d_S_init_9 rfl ?_
  refine bv_iconst (v := nI 0) 11 rfl C d_S_init_10 (by decide) ?_
  refine bv_put k 1 14 rfl C k_S hk ha (va_up_self _ _ _) (by decide) t1_106 rfl rfl rfl (Nat.le_of_ble_eq_true rfl) d_S_init_11 ?_
  refine bv_aload_n 15 rfl C d_S_init_14 rfl ?_
  refine bv_iconst (v := nI 0) 16 rfl C d_S_init_15 (by decide) ?_
  refine bv_put k 2 19 rfl C k_S hk ha (va_up_self _ _ _) (by decide) t1_108 rfl rfl rfl (Nat.le_of_ble_eq_true rfl) d_S_init_16 ?_
  refine bv_aload_n 20 rfl C d_S_init_19 rfl ?_
  refine bv_bipush (v := nI 6) 22 rfl C d_S_init_20 (by decide) ?_
  refine bv_newq 4 6 25 rfl C rfl t1_101 (by simp) rfl (by decide) (by decide) (by decide) (by decide) d_S_init_22 (fun ad1 had1 => ?_)
  refine bv_putF k 3 28 rfl C k_S (Nat.lt_succ_of_lt hk) ((had1 k hk).trans ha) (by rw [va_up_ne _ _ (Nat.ne_of_lt hk), va_up_self]) (by decide) t1_110 rfl hnm rfl rfl rfl (Nat.le_of_ble_eq_true rfl) d_S_init_25 ?_
  refine bv_iconst (v := nI 0) 29 rfl C d_S_init_28 (by decide) ?_
  refine bv_istore_n 30 rfl C d_S_init_29 (by decide) ?_
  refine bv_wk [(0, .ref a), (1, .int (nI 0))] ⟨rfl, rfl, trivial⟩ ?_
  refine lp_S_init (ad := ad) (w := w) (N := N) C (by decide) (by decide) (by decide) (by decide) hk ha (fun ad2 w2 hI => ?_) 6 0 ad1 _ _ _ _ rfl rfl rfl rfl ⟨had1, ?_, ⟨fun _ => none, ?_, fun j hj => absurd hj (Nat.not_lt_zero j)⟩, fun j hj => absurd hj (Nat.not_lt_zero j), fun j hj hjk => ?_⟩
  · exact bv_return C rfl d_S_init_56 (Nat.le_refl _) (Nat.le_refl _) ⟨rfl, rfl, hI⟩
  · rw [va_up_self]; rfl
  · rw [va_up_ne _ _ (Nat.ne_of_gt hk), va_up_self]
  · rw [va_up_ne _ _ hjk, va_up_ne _ _ (Nat.ne_of_lt hj), va_up_ne _ _ hjk, va_up_ne _ _ hjk, va_up_ne _ _ hjk]
end bSin
/-- so many fresh chunks from key b on, in the array at key ka -/
def bChI (dd : bD) (ad0 : Nat → Nat) (w0 : Nat → va_E) (ka b cnt i : Nat) (ad : Nat → Nat) (w : Nat → va_E) : Prop :=
  (∀ j, j < b → ad j = ad0 j) ∧ (∀ j, j < b → j ≠ ka → w j = w0 j) ∧ (∃ f, w ka = aR dd 3 cnt f ∧ ∀ j, j < i → f j = some (ad (b + 2 * j))) ∧ ∀ j, j < i → w (b + 2 * j) = .inr (0, [.int (nI 0), .long 0, .ref (ad (b + 2 * j + 1))]) ∧ w (b + 2 * j + 1) = aI dd 8 (fun _ => 0)
/-- so many fresh versions -/
def bVeI (dd : bD) (ad0 : Nat → Nat) (w0 : Nat → va_E) (i : Nat) (ad : Nat → Nat) (w : Nat → va_E) : Prop :=
  (∀ j, j < 179 → ad j = ad0 j) ∧ (∀ j, j < 179 → j ≠ 6 → w j = w0 j) ∧ (∃ f, w 6 = aR dd 6 40 f ∧ ∀ j, j < i → f j = some (ad (179 + 3 * j))) ∧ ∀ j, j < i → w (179 + 3 * j) = .inr (5, [.int (nI 0), .int (nI 0), .int (nI 0), .ref (ad (179 + 3 * j + 1))]) ∧ w (179 + 3 * j + 1) = .inr (2, [.ref (ad (179 + 3 * j + 2)), .int (nI 0)]) ∧ w (179 + 3 * j + 2) = aI dd 18 (fun _ => 0)
/-- one fresh session at key k -/
def bSesF (dd : bD) (ad : Nat → Nat) (w : Nat → va_E) (k : Nat) : Prop :=
  w k = .inr (3, [.int (nI 0), .int (nI 0), .int (nI 0), .ref (ad (k + 1))]) ∧ (∃ f, w (k + 1) = aR dd 4 6 f ∧ ∀ j, j < 6 → f j = some (ad (k + 2 + 2 * j))) ∧ ∀ j, j < 6 → w (k + 2 + 2 * j) = .inr (2, [.ref (ad (k + 3 + 2 * j)), .int (nI 0)]) ∧ w (k + 3 + 2 * j) = aI dd 3 (fun _ => 0)
theorem bSesF.to {dd : bD} {ad ad' : Nat → Nat} {w w' : Nat → va_E} {k : Nat} (h : bSesF dd ad w k) (ha : ∀ j, k ≤ j → j < k + 14 → ad' j = ad j) (hw : ∀ j, k ≤ j → j < k + 14 → w' j = w j) : bSesF dd ad' w' k := by
  obtain ⟨h1, ⟨f, h2, h3⟩, h4⟩ := h
  refine ⟨by rw [hw k (by omega) (by omega), h1, ha (k + 1) (by omega) (by omega)], ⟨f, by rw [hw _ (by omega) (by omega), h2], fun j hj => by rw [h3 j hj, ha _ (by omega) (by omega)]⟩, fun j hj => ⟨?_, ?_⟩⟩
  · rw [hw _ (by omega) (by omega), (h4 j hj).1, ha _ (by omega) (by omega)]
  · rw [hw _ (by omega) (by omega), (h4 j hj).2]
theorem bSesI.toF {dd : bD} {ad0 ad : Nat → Nat} {w0 w : Nat → va_E} {k : Nat} (h : bSesI dd ad0 w0 k (k + 1) 6 ad w) : bSesF dd ad w k := by
  obtain ⟨-, h1, ⟨f, h2, h3⟩, h4, -⟩ := h
  refine ⟨h1, ⟨f, h2, fun j hj => by rw [h3 j hj, show k + 1 + 1 + 2 * j = k + 2 + 2 * j by omega]⟩, fun j hj => ?_⟩
  have h5 := h4 j hj
  rw [show k + 1 + 1 + 2 * j = k + 2 + 2 * j by omega, show k + 1 + 2 + 2 * j = k + 3 + 2 * j by omega] at h5
  exact h5
/-- so many fresh sessions -/
def bSeI (dd : bD) (ad0 : Nat → Nat) (w0 : Nat → va_E) (i : Nat) (ad : Nat → Nat) (w : Nat → va_E) : Prop :=
  (∀ j, j < 109 → ad j = ad0 j) ∧ (∀ j, j < 109 → j ≠ 5 → w j = w0 j) ∧ (∃ f, w 5 = aR dd 5 5 f ∧ ∀ j, j < i → f j = some (ad (109 + 14 * j))) ∧ ∀ j, j < i → bSesF dd ad w (109 + 14 * j)
section bLoopB
variable {p : Program} {l : Launch} {e : Env} {R : Room} {s : State} {m : MethodId} {args : Array Value} {below : List Frame} {meth : Method} {c : Code} {dd : bD} {A : Nat → Prop} {mc ms : Nat} {post : Option Value → (Nat → Nat) → (Nat → va_E) → Nat → Prop} {thr : String → (Nat → Nat) → (Nat → va_E) → Nat → Prop} {ad : Nat → Nat} {w : Nat → va_E} {N : Nat}

theorem lp_B_slots (C : bCx p R s m args meth c c_B_init R_B 2 none [] dd A) (hRc : 304 ≤ R.cells) (hRs : 1949 ≤ R.slots) (hRf : 3 ≤ R.frames) (hRl : 61 ≤ R.locals) {a qs : Nat} {fs : List Value} (ha : ad 0 = a) (hq : ad 4 = qs) (h0 : w 0 = .inr (6, fs)) (hf : fs[2]? = some (.ref qs))
    (hx : ∀ (ad1 : Nat → Nat) (w1 : Nat → va_E), bChI dd ad w 4 13 48 48 ad1 w1 → bV p l e R s m args below meth c dd A 2 mc ms post thr 123 (bO [(0, .ref a), (1, .int (nI 48))]) [] ad1 w1 109 108 756) :
    ∀ (d i : Nat) (ad1 : Nat → Nat) (w1 : Nat → va_E) (N1 c1 s1 : Nat), i + d = 48 → N1 = 13 + 2 * i → c1 = 12 + 2 * i → s1 = 228 + 11 * i → bChI dd ad w 4 13 48 i ad1 w1 → bV p l e R s m args below meth c dd A 2 mc ms post thr 98 (bO [(0, .ref a), (1, .int (nI i))]) [] ad1 w1 N1 c1 s1 := by
  intro d
  induction d with
  | zero =>
    intro i ad1 w1 N1 c1 s1 hi hN hc hs hI
    obtain rfl : i = 48 := by omega
    subst hN; subst hc; subst hs
    refine bv_iload_n 99 rfl C d_B_init_98 rfl ?_
    refine bv_bipush (v := nI 48) 101 rfl C d_B_init_99 (by decide) ?_
    refine bv_icmp_ge 123 104 rfl C d_B_init_101 (by decide) (fun h => ?_) (fun h => absurd (nI_le (by decide) (by decide)) h)
    exact hx ad1 w1 hI
  | succ d ih =>
    intro i ad1 w1 N1 c1 s1 hi hN hc hs hI
    obtain ⟨h1, h2, ⟨f, h3, h3'⟩, h4⟩ := hI
    refine bv_iload_n 99 rfl C d_B_init_98 rfl ?_
    refine bv_bipush (v := nI 48) 101 rfl C d_B_init_99 (by decide) ?_
    refine bv_icmp_ge 123 104 rfl C d_B_init_101 (by decide) (fun h => absurd h (nI_ge (by omega) (by decide))) (fun h => ?_)
    refine bv_aload_n 105 rfl C d_B_init_104 rfl ?_
    refine bv_get 0 2 108 rfl C k_B (by omega) ((h1 0 (by omega)).trans ha) ((h2 0 (by omega) (by decide)).trans h0) (by decide) t1_148 hf d_B_init_105 ?_
    refine bv_iload_n 109 rfl C d_B_init_108 rfl ?_
    refine bv_new (fs := [.int 0,.long 0,.null]) 112 rfl C k_K t1_57 t1_79 t1_5 (by intro j hj; rcases (show j = 0 ∨ j = 1 ∨ j = 2 by omega) with rfl | rfl | rfl <;> rfl) (by omega) (by omega) d_B_init_109 (fun ad2 had1 => ?_)
    refine bv_dup 113 rfl C d_B_init_112 rfl ?_
    refine bv_call (rest := [.ref (ad2 N1), .int (nI i), .ref qs]) 116 rfl C d_B_init_113 (ct_K_init (k := N1) (a := ad2 N1) (Nat.lt_succ_self _) rfl (va_up_self _ _ _)) i_K_init t1_5 (fun H locs ls _ => bs_IN (av := []) C t1_82 n1_80 t1_81 rfl (by decide) rfl rfl d_B_init_113 H locs ls) ⟨by first | decide | omega, by first | decide | omega⟩ (by omega) (by omega) (Nat.le_of_ble_eq_true rfl) (fun v ad3 w3 N3 hpo => ?_) (fun x Cn ad' w' N' hth => ?_)
    · obtain ⟨rfl, rfl, had2, rfl⟩ := hpo
      have g1 : ∀ j, j < N1 → ad3 j = ad1 j := fun j hj => (had2 j (by omega)).trans (had1 j hj)
      have g2 : ad3 N1 = ad2 N1 := had2 N1 (by omega)
      refine bv_aast 3 4 i 117 N1 rfl C rfl rfl (by omega) ((g1 4 (by omega)).trans ((h1 4 (by omega)).trans hq)) (by rw [va_up_ne _ _ (by omega), va_up_ne _ _ (by omega), va_up_ne _ _ (by omega), h3]) (by omega) g2 (va_up_self _ _ _) rfl (by omega) (by decide) d_B_init_116 ?_
      refine bv_iinc 120 rfl C d_B_init_117 rfl (by first | exact b_inc _ | rfl) (by decide) ?_
      refine bv_goto 98 C d_B_init_120 (by decide) ?_
      refine bv_wk [(0, .ref a), (1, .int (nI (i + 1)))] ⟨rfl, rfl, trivial⟩ ?_
      refine ih (i + 1) ad3 _ _ _ _ (by omega) (by omega) (by omega) (by omega) ⟨fun j hj => (g1 j (by omega)).trans (h1 j hj), fun j hj hjk => ?_, ⟨_, va_up_self _ _ _, fun j hj => ?_⟩, fun j hj => ⟨?_, ?_⟩⟩
      · rw [va_up_ne _ _ hjk, va_up_ne _ _ (by omega), va_up_ne _ _ (by omega), va_up_ne _ _ (by omega), h2 j hj hjk]
      · by_cases hji : j = i
        · subst hji
          rw [va_up_self, ← g2, hN]
        · rw [va_up_ne _ _ hji, h3' j (by omega), g1 _ (by omega)]
      · by_cases hji : j = i
        · subst hji
          rw [← hN, va_up_ne _ _ (by omega), va_up_self]
        · rw [va_up_ne _ _ (by omega), va_up_ne _ _ (by omega), va_up_ne _ _ (by omega), va_up_ne _ _ (by omega), (h4 j (by omega)).1, g1 _ (by omega)]
      · by_cases hji : j = i
        · subst hji
          rw [← hN, va_up_ne _ _ (by omega), va_up_ne _ _ (by omega), va_up_self]
        · rw [va_up_ne _ _ (by omega), va_up_ne _ _ (by omega), va_up_ne _ _ (by omega), va_up_ne _ _ (by omega), (h4 j (by omega)).2]
    · exact hth.elim
theorem lp_B_incoming (C : bCx p R s m args meth c c_B_init R_B 2 none [] dd A) (hRc : 304 ≤ R.cells) (hRs : 1949 ≤ R.slots) (hRf : 3 ≤ R.frames) (hRl : 61 ≤ R.locals) {a qs : Nat} {fs : List Value} (ha : ad 0 = a) (hq : ad 7 = qs) (h0 : w 0 = .inr (6, fs)) (hf : fs[6]? = some (.ref qs))
    (hx : ∀ (ad1 : Nat → Nat) (w1 : Nat → va_E), bChI dd ad w 7 299 3 3 ad1 w1 → bV p l e R s m args below meth c dd A 2 mc ms post thr 202 (bO [(0, .ref a), (1, .int (nI 3))]) [] ad1 w1 305 304 1949) :
    ∀ (d i : Nat) (ad1 : Nat → Nat) (w1 : Nat → va_E) (N1 c1 s1 : Nat), i + d = 3 → N1 = 299 + 2 * i → c1 = 298 + 2 * i → s1 = 1916 + 11 * i → bChI dd ad w 7 299 3 i ad1 w1 → bV p l e R s m args below meth c dd A 2 mc ms post thr 178 (bO [(0, .ref a), (1, .int (nI i))]) [] ad1 w1 N1 c1 s1 := by
  intro d
  induction d with
  | zero =>
    intro i ad1 w1 N1 c1 s1 hi hN hc hs hI
    obtain rfl : i = 3 := by omega
    subst hN; subst hc; subst hs
    refine bv_iload_n 179 rfl C d_B_init_178 rfl ?_
    refine bv_iconst (v := nI 3) 180 rfl C d_B_init_179 (by decide) ?_
    refine bv_icmp_ge 202 183 rfl C d_B_init_180 (by decide) (fun h => ?_) (fun h => absurd (nI_le (by decide) (by decide)) h)
    exact hx ad1 w1 hI
  | succ d ih =>
    intro i ad1 w1 N1 c1 s1 hi hN hc hs hI
    obtain ⟨h1, h2, ⟨f, h3, h3'⟩, h4⟩ := hI
    refine bv_iload_n 179 rfl C d_B_init_178 rfl ?_
    refine bv_iconst (v := nI 3) 180 rfl C d_B_init_179 (by decide) ?_
    refine bv_icmp_ge 202 183 rfl C d_B_init_180 (by decide) (fun h => absurd h (nI_ge (by omega) (by decide))) (fun h => ?_)
    refine bv_aload_n 184 rfl C d_B_init_183 rfl ?_
    refine bv_get 0 6 187 rfl C k_B (by omega) ((h1 0 (by omega)).trans ha) ((h2 0 (by omega) (by decide)).trans h0) (by decide) t1_152 hf d_B_init_184 ?_
    refine bv_iload_n 188 rfl C d_B_init_187 rfl ?_
    refine bv_new (fs := [.int 0,.long 0,.null]) 191 rfl C k_K t1_57 t1_79 t1_5 (by intro j hj; rcases (show j = 0 ∨ j = 1 ∨ j = 2 by omega) with rfl | rfl | rfl <;> rfl) (by omega) (by omega) d_B_init_188 (fun ad2 had1 => ?_)
    refine bv_dup 192 rfl C d_B_init_191 rfl ?_
    refine bv_call (rest := [.ref (ad2 N1), .int (nI i), .ref qs]) 195 rfl C d_B_init_192 (ct_K_init (k := N1) (a := ad2 N1) (Nat.lt_succ_self _) rfl (va_up_self _ _ _)) i_K_init t1_5 (fun H locs ls _ => bs_IN (av := []) C t1_82 n1_80 t1_81 rfl (by decide) rfl rfl d_B_init_192 H locs ls) ⟨by first | decide | omega, by first | decide | omega⟩ (by omega) (by omega) (Nat.le_of_ble_eq_true rfl) (fun v ad3 w3 N3 hpo => ?_) (fun x Cn ad' w' N' hth => ?_)
    · obtain ⟨rfl, rfl, had2, rfl⟩ := hpo
      have g1 : ∀ j, j < N1 → ad3 j = ad1 j := fun j hj => (had2 j (by omega)).trans (had1 j hj)
      have g2 : ad3 N1 = ad2 N1 := had2 N1 (by omega)
      refine bv_aast 3 7 i 196 N1 rfl C rfl rfl (by omega) ((g1 7 (by omega)).trans ((h1 7 (by omega)).trans hq)) (by rw [va_up_ne _ _ (by omega), va_up_ne _ _ (by omega), va_up_ne _ _ (by omega), h3]) (by omega) g2 (va_up_self _ _ _) rfl (by omega) (by decide) d_B_init_195 ?_
      refine bv_iinc 199 rfl C d_B_init_196 rfl (by first | exact b_inc _ | rfl) (by decide) ?_
      refine bv_goto 178 C d_B_init_199 (by decide) ?_
      refine bv_wk [(0, .ref a), (1, .int (nI (i + 1)))] ⟨rfl, rfl, trivial⟩ ?_
      refine ih (i + 1) ad3 _ _ _ _ (by omega) (by omega) (by omega) (by omega) ⟨fun j hj => (g1 j (by omega)).trans (h1 j hj), fun j hj hjk => ?_, ⟨_, va_up_self _ _ _, fun j hj => ?_⟩, fun j hj => ⟨?_, ?_⟩⟩
      · rw [va_up_ne _ _ hjk, va_up_ne _ _ (by omega), va_up_ne _ _ (by omega), va_up_ne _ _ (by omega), h2 j hj hjk]
      · by_cases hji : j = i
        · subst hji
          rw [va_up_self, ← g2, hN]
        · rw [va_up_ne _ _ hji, h3' j (by omega), g1 _ (by omega)]
      · by_cases hji : j = i
        · subst hji
          rw [← hN, va_up_ne _ _ (by omega), va_up_self]
        · rw [va_up_ne _ _ (by omega), va_up_ne _ _ (by omega), va_up_ne _ _ (by omega), va_up_ne _ _ (by omega), (h4 j (by omega)).1, g1 _ (by omega)]
      · by_cases hji : j = i
        · subst hji
          rw [← hN, va_up_ne _ _ (by omega), va_up_ne _ _ (by omega), va_up_self]
        · rw [va_up_ne _ _ (by omega), va_up_ne _ _ (by omega), va_up_ne _ _ (by omega), va_up_ne _ _ (by omega), (h4 j (by omega)).2]
    · exact hth.elim
theorem lp_B_sess (C : bCx p R s m args meth c c_B_init R_B 2 none [] dd A) (hRc : 304 ≤ R.cells) (hRs : 1949 ≤ R.slots) (hRf : 3 ≤ R.frames) (hRl : 61 ≤ R.locals) {a qs : Nat} {fs : List Value} (ha : ad 0 = a) (hq : ad 5 = qs) (h0 : w 0 = .inr (6, fs)) (hf : fs[3]? = some (.ref qs))
    (hx : ∀ (ad1 : Nat → Nat) (w1 : Nat → va_E), bSeI dd ad w 5 ad1 w1 → bV p l e R s m args below meth c dd A 2 mc ms post thr 149 (bO [(0, .ref a), (1, .int (nI 5))]) [] ad1 w1 179 178 956) :
    ∀ (d i : Nat) (ad1 : Nat → Nat) (w1 : Nat → va_E) (N1 c1 s1 : Nat), i + d = 5 → N1 = 109 + 14 * i → c1 = 108 + 14 * i → s1 = 756 + 40 * i → bSeI dd ad w i ad1 w1 → bV p l e R s m args below meth c dd A 2 mc ms post thr 125 (bO [(0, .ref a), (1, .int (nI i))]) [] ad1 w1 N1 c1 s1 := by
  intro d
  induction d with
  | zero =>
    intro i ad1 w1 N1 c1 s1 hi hN hc hs hI
    obtain rfl : i = 5 := by omega
    subst hN; subst hc; subst hs
    refine bv_iload_n 126 rfl C d_B_init_125 rfl ?_
    refine bv_iconst (v := nI 5) 127 rfl C d_B_init_126 (by decide) ?_
    refine bv_icmp_ge 149 130 rfl C d_B_init_127 (by decide) (fun h => ?_) (fun h => absurd (nI_le (by decide) (by decide)) h)
    exact hx ad1 w1 hI
  | succ d ih =>
    intro i ad1 w1 N1 c1 s1 hi hN hc hs hI
    obtain ⟨h1, h2, ⟨f, h3, h3'⟩, h4⟩ := hI
    refine bv_iload_n 126 rfl C d_B_init_125 rfl ?_
    refine bv_iconst (v := nI 5) 127 rfl C d_B_init_126 (by decide) ?_
    refine bv_icmp_ge 149 130 rfl C d_B_init_127 (by decide) (fun h => absurd h (nI_ge (by omega) (by decide))) (fun h => ?_)
    refine bv_aload_n 131 rfl C d_B_init_130 rfl ?_
    refine bv_get 0 3 134 rfl C k_B (by omega) ((h1 0 (by omega)).trans ha) ((h2 0 (by omega) (by decide)).trans h0) (by decide) t1_149 hf d_B_init_131 ?_
    refine bv_iload_n 135 rfl C d_B_init_134 rfl ?_
    refine bv_new (fs := [.int 0,.int 0,.int 0,.null]) 138 rfl C k_S t1_59 t1_96 t1_6 (by intro j hj; rcases (show j = 0 ∨ j = 1 ∨ j = 2 ∨ j = 3 by omega) with rfl | rfl | rfl | rfl <;> rfl) (by omega) (by omega) d_B_init_135 (fun ad2 had1 => ?_)
    refine bv_dup 139 rfl C d_B_init_138 rfl ?_
    refine bv_call (rest := [.ref (ad2 N1), .int (nI i), .ref qs]) 142 rfl C d_B_init_139 (ct_S_init (k := N1) (a := ad2 N1) (Nat.lt_succ_self _) rfl (va_up_self _ _ _)) i_S_init t1_6 (fun H locs ls _ => bs_IN (av := []) C t1_99 n1_97 t1_98 rfl (by decide) rfl rfl d_B_init_139 H locs ls) ⟨by first | decide | omega, by first | decide | omega⟩ (by omega) (by omega) (Nat.le_of_ble_eq_true rfl) (fun v ad3 w3 N3 hpo => ?_) (fun x Cn ad' w' N' hth => ?_)
    · obtain ⟨rfl, rfl, hSI⟩ := hpo
      have hSF := bSesI.toF hSI
      obtain ⟨had2, -, -, -, hk5⟩ := hSI
      have g1 : ∀ j, j < N1 → ad3 j = ad1 j := fun j hj => (had2 j (by omega)).trans (had1 j hj)
      have g2 : ad3 N1 = ad2 N1 := had2 N1 (by omega)
      have g3 : ∀ j, j < N1 → w3 j = w1 j := fun j hj => by rw [hk5 j (by omega) (by omega), va_up_ne _ _ (by omega)]
      refine bv_aast 5 5 i 143 N1 rfl C rfl rfl (by omega) ((g1 5 (by omega)).trans ((h1 5 (by omega)).trans hq)) (by rw [g3 5 (by omega), h3]) (by omega) g2 hSF.1 rfl (by omega) (by decide) d_B_init_142 ?_
      refine bv_iinc 146 rfl C d_B_init_143 rfl (by first | exact b_inc _ | rfl) (by decide) ?_
      refine bv_goto 125 C d_B_init_146 (by decide) ?_
      refine bv_wk [(0, .ref a), (1, .int (nI (i + 1)))] ⟨rfl, rfl, trivial⟩ ?_
      refine ih (i + 1) ad3 _ _ _ _ (by omega) (by omega) (by omega) (by omega) ⟨fun j hj => (g1 j (by omega)).trans (h1 j hj), fun j hj hjk => ?_, ⟨_, va_up_self _ _ _, fun j hj => ?_⟩, fun j hj => ?_⟩
      · rw [va_up_ne _ _ hjk, g3 j (by omega), h2 j hj hjk]
      · by_cases hji : j = i
        · subst hji
          rw [va_up_self, ← g2, hN]
        · rw [va_up_ne _ _ hji, h3' j (by omega), g1 _ (by omega)]
      · by_cases hji : j = i
        · subst hji
          rw [← hN]
          exact hSF.to (fun _ _ _ => rfl) (fun q _ _ => va_up_ne _ _ (by omega))
        · exact (h4 j (by omega)).to (fun q _ _ => g1 q (by omega)) (fun q _ _ => by rw [va_up_ne _ _ (by omega), g3 q (by omega)])
    · exact hth.elim
theorem lp_B_vers (C : bCx p R s m args meth c c_B_init R_B 2 none [] dd A) (hRc : 304 ≤ R.cells) (hRs : 1949 ≤ R.slots) (hRf : 3 ≤ R.frames) (hRl : 61 ≤ R.locals) {a qs : Nat} {fs : List Value} (ha : ad 0 = a) (hq : ad 6 = qs) (h0 : w 0 = .inr (6, fs)) (hf : fs[4]? = some (.ref qs))
    (hx : ∀ (ad1 : Nat → Nat) (w1 : Nat → va_E), bVeI dd ad w 40 ad1 w1 → bV p l e R s m args below meth c dd A 2 mc ms post thr 176 (bO [(0, .ref a), (1, .int (nI 40))]) [] ad1 w1 299 298 1916) :
    ∀ (d i : Nat) (ad1 : Nat → Nat) (w1 : Nat → va_E) (N1 c1 s1 : Nat), i + d = 40 → N1 = 179 + 3 * i → c1 = 178 + 3 * i → s1 = 956 + 24 * i → bVeI dd ad w i ad1 w1 → bV p l e R s m args below meth c dd A 2 mc ms post thr 151 (bO [(0, .ref a), (1, .int (nI i))]) [] ad1 w1 N1 c1 s1 := by
  intro d
  induction d with
  | zero =>
    intro i ad1 w1 N1 c1 s1 hi hN hc hs hI
    obtain rfl : i = 40 := by omega
    subst hN; subst hc; subst hs
    refine bv_iload_n 152 rfl C d_B_init_151 rfl ?_
    refine bv_bipush (v := nI 40) 154 rfl C d_B_init_152 (by decide) ?_
    refine bv_icmp_ge 176 157 rfl C d_B_init_154 (by decide) (fun h => ?_) (fun h => absurd (nI_le (by decide) (by decide)) h)
    exact hx ad1 w1 hI
  | succ d ih =>
    intro i ad1 w1 N1 c1 s1 hi hN hc hs hI
    obtain ⟨h1, h2, ⟨f, h3, h3'⟩, h4⟩ := hI
    refine bv_iload_n 152 rfl C d_B_init_151 rfl ?_
    refine bv_bipush (v := nI 40) 154 rfl C d_B_init_152 (by decide) ?_
    refine bv_icmp_ge 176 157 rfl C d_B_init_154 (by decide) (fun h => absurd h (nI_ge (by omega) (by decide))) (fun h => ?_)
    refine bv_aload_n 158 rfl C d_B_init_157 rfl ?_
    refine bv_get 0 4 161 rfl C k_B (by omega) ((h1 0 (by omega)).trans ha) ((h2 0 (by omega) (by decide)).trans h0) (by decide) t1_150 hf d_B_init_158 ?_
    refine bv_iload_n 162 rfl C d_B_init_161 rfl ?_
    refine bv_new (fs := [.int 0,.int 0,.int 0,.null]) 165 rfl C k_V t1_61 t1_122 t1_7 (by intro j hj; rcases (show j = 0 ∨ j = 1 ∨ j = 2 ∨ j = 3 by omega) with rfl | rfl | rfl | rfl <;> rfl) (by omega) (by omega) d_B_init_162 (fun ad2 had1 => ?_)
    refine bv_dup 166 rfl C d_B_init_165 rfl ?_
    refine bv_call (rest := [.ref (ad2 N1), .int (nI i), .ref qs]) 169 rfl C d_B_init_166 (ct_V_init (k := N1) (a := ad2 N1) (Nat.lt_succ_self _) rfl (va_up_self _ _ _)) i_V_init t1_7 (fun H locs ls _ => bs_IN (av := []) C t1_125 n1_123 t1_124 rfl (by decide) rfl rfl d_B_init_166 H locs ls) ⟨by first | decide | omega, by first | decide | omega⟩ (by omega) (by omega) (Nat.le_of_ble_eq_true rfl) (fun v ad3 w3 N3 hpo => ?_) (fun x Cn ad' w' N' hth => ?_)
    · obtain ⟨rfl, rfl, had2, rfl⟩ := hpo
      have g1 : ∀ j, j < N1 → ad3 j = ad1 j := fun j hj => (had2 j (by omega)).trans (had1 j hj)
      have g2 : ad3 N1 = ad2 N1 := had2 N1 (by omega)
      refine bv_aast 6 6 i 170 N1 rfl C rfl rfl (by omega) ((g1 6 (by omega)).trans ((h1 6 (by omega)).trans hq)) (by rw [va_up_ne _ _ (by omega), va_up_ne _ _ (by omega), va_up_ne _ _ (by omega), va_up_ne _ _ (by omega), h3]) (by omega) g2 (va_up_self _ _ _) rfl (by omega) (by decide) d_B_init_169 ?_
      refine bv_iinc 173 rfl C d_B_init_170 rfl (by first | exact b_inc _ | rfl) (by decide) ?_
      refine bv_goto 151 C d_B_init_173 (by decide) ?_
      refine bv_wk [(0, .ref a), (1, .int (nI (i + 1)))] ⟨rfl, rfl, trivial⟩ ?_
      refine ih (i + 1) ad3 _ _ _ _ (by omega) (by omega) (by omega) (by omega) ⟨fun j hj => (g1 j (by omega)).trans (h1 j hj), fun j hj hjk => ?_, ⟨_, va_up_self _ _ _, fun j hj => ?_⟩, fun j hj => ⟨?_, ?_, ?_⟩⟩
      · rw [va_up_ne _ _ hjk, va_up_ne _ _ (by omega), va_up_ne _ _ (by omega), va_up_ne _ _ (by omega), va_up_ne _ _ (by omega), h2 j hj hjk]
      · by_cases hji : j = i
        · subst hji
          rw [va_up_self, ← g2, hN]
        · rw [va_up_ne _ _ hji, h3' j (by omega), g1 _ (by omega)]
      · by_cases hji : j = i
        · subst hji
          rw [← hN, va_up_ne _ _ (by omega), va_up_self]
        · rw [va_up_ne _ _ (by omega), va_up_ne _ _ (by omega), va_up_ne _ _ (by omega), va_up_ne _ _ (by omega), va_up_ne _ _ (by omega), (h4 j (by omega)).1, g1 _ (by omega)]
      · by_cases hji : j = i
        · subst hji
          rw [← hN, va_up_ne _ _ (by omega), va_up_ne _ _ (by omega), va_up_self]
        · rw [va_up_ne _ _ (by omega), va_up_ne _ _ (by omega), va_up_ne _ _ (by omega), va_up_ne _ _ (by omega), va_up_ne _ _ (by omega), (h4 j (by omega)).2.1, g1 _ (by omega)]
      · by_cases hji : j = i
        · subst hji
          rw [← hN, va_up_ne _ _ (by omega), va_up_ne _ _ (by omega), va_up_ne _ _ (by omega), va_up_self]
        · rw [va_up_ne _ _ (by omega), va_up_ne _ _ (by omega), va_up_ne _ _ (by omega), va_up_ne _ _ (by omega), va_up_ne _ _ (by omega), (h4 j (by omega)).2.2]
    · exact hth.elim
end bLoopB

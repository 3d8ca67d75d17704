section bSha
variable {p : Program} {l : Launch} {e : Env} {R : Room} {s : State} {m : MethodId} {args : Array Value} {below : List Frame} {meth : Method} {c : Code} {dd : bD} {A : Nat → Prop} {mc ms : Nat} {post : Option Value → (Nat → Nat) → (Nat → va_E) → Nat → Prop} {thr : String → (Nat → Nat) → (Nat → va_E) → Nat → Prop} {ad : Nat → Nat} {w : Nat → va_E} {N cells slots : Nat}
theorem ct_H_padBlock {f0 : Nat → Int32} {n : Int32} {x : Int64} (hN : 305 ≤ N) (h2 : w 2 = .inr (4, [.ref (ad 3)])) (h3 : w 3 = aI dd 64 f0) : bK l dd y_H_padBlock 0 0 0 0 [.ref (ad 2), .int n, .long x] ad w N (fun v ad' w' N' => ad = ad' ∧ N = N' ∧ v = none ∧ ∃ f, w' = va_up w 3 (aI dd 64 f)) bNo := by
  refine bK.start [(0, .ref (ad 2)), (1, .int n), (2, .long x)] (by decide) t2_9 (Nat.le_of_ble_eq_true rfl) rfl (fun p e s m args below meth c A hnm C => ?_)
  have t74 : ∀ (f : Nat → Int32) (b y : Int32), bV p l e { frames := 0, cells := 0, slots := 0, locals := 0 } s m args below meth c dd A 7 0 0 (fun v ad' w' N' => ad = ad' ∧ N = N' ∧ v = none ∧ ∃ f, w' = va_up w 3 (aI dd 64 f)) bNo 74 (bO [(0, .ref (ad 2)), (1, .int n)]) [.int y, .int (nI 2), .ref (ad 3)] ad (va_up w 3 (aI dd 64 f)) N 0 0 := by
    intro f b y
    refine bv_iast 3 2 75 rfl C (by omega) rfl (va_up_self _ _ _) rfl (by decide) (by decide) d_H_padBlock_74 ?_
    rw [bu_same]
    refine bv_aload_n 76 rfl C d_H_padBlock_75 rfl ?_
    refine bv_get 2 0 79 rfl C k_H (by omega) rfl (by rw [va_up_ne _ _ (by decide)]; exact h2) (by decide) t1_52 rfl d_H_padBlock_76 ?_
    refine bv_bipush (v := nI 15) 81 rfl C d_H_padBlock_79 (by decide) ?_
    refine bv_bipush (v := nI 8) 83 rfl C d_H_padBlock_81 (by decide) ?_
    refine bv_iload_n 84 rfl C d_H_padBlock_83 rfl ?_
    refine bv_imul 85 rfl C d_H_padBlock_84 ?_
    refine bv_iast 3 15 86 rfl C (by omega) rfl (va_up_self _ _ _) rfl (by decide) (by decide) d_H_padBlock_85 ?_
    rw [bu_same]
    exact bv_return C rfl d_H_padBlock_86 (Nat.le_refl _) (Nat.le_refl _) ⟨rfl, rfl, rfl, _, rfl⟩
  have t35 : ∀ (b : Int32) (y : Int64), bV p l e { frames := 0, cells := 0, slots := 0, locals := 0 } s m args below meth c dd A 7 0 0 (fun v ad' w' N' => ad = ad' ∧ N = N' ∧ v = none ∧ ∃ f, w' = va_up w 3 (aI dd 64 f)) bNo 35 (bO [(0, .ref (ad 2)), (1, .int n), (4, .int b)]) [.long y] ad w N 0 0 := by
    intro b y
    refine bv_lstore 37 rfl C d_H_padBlock_35 (by decide) ?_
    refine bv_aload_n 38 rfl C d_H_padBlock_37 rfl ?_
    refine bv_get 2 0 41 rfl C k_H (by omega) rfl h2 (by decide) t1_52 rfl d_H_padBlock_38 ?_
    refine bv_iconst (v := nI 0) 42 rfl C d_H_padBlock_41 (by decide) ?_
    refine bv_lload 44 rfl C d_H_padBlock_42 rfl ?_
    refine bv_bipush (v := nI 32) 46 rfl C d_H_padBlock_44 (by decide) ?_
    refine bv_lushr 47 rfl C d_H_padBlock_46 rfl ?_
    refine bv_l2i 48 rfl C d_H_padBlock_47 rfl ?_
    refine bv_iast 3 0 49 rfl C (by omega) rfl h3 rfl (by decide) (by decide) d_H_padBlock_48 ?_
    refine bv_aload_n 50 rfl C d_H_padBlock_49 rfl ?_
    refine bv_get 2 0 53 rfl C k_H (by omega) rfl (by rw [va_up_ne _ _ (by decide)]; exact h2) (by decide) t1_52 rfl d_H_padBlock_50 ?_
    refine bv_iconst (v := nI 1) 54 rfl C d_H_padBlock_53 (by decide) ?_
    refine bv_lload 56 rfl C d_H_padBlock_54 rfl ?_
    refine bv_l2i 57 rfl C d_H_padBlock_56 rfl ?_
    refine bv_iast 3 1 58 rfl C (by omega) rfl (va_up_self _ _ _) rfl (by decide) (by decide) d_H_padBlock_57 ?_
    rw [bu_same]
    refine bv_aload_n 59 rfl C d_H_padBlock_58 rfl ?_
    refine bv_get 2 0 62 rfl C k_H (by omega) rfl (by rw [va_up_ne _ _ (by decide)]; exact h2) (by decide) t1_52 rfl d_H_padBlock_59 ?_
    refine bv_iconst (v := nI 2) 63 rfl C d_H_padBlock_62 (by decide) ?_
    refine bv_iload 65 rfl C d_H_padBlock_63 rfl ?_
    refine bv_if_eq 72 68 rfl C d_H_padBlock_65 (by decide) (fun h => ?_) (fun h => ?_)
    · refine bv_ldc 74 rfl C t2_11 d_H_padBlock_72 ?_
      refine bv_wk [(0, .ref (ad 2)), (1, .int n)] ⟨rfl, rfl, trivial⟩ ?_
      exact t74 _ b _
    · refine bv_iconst (v := nI 0) 69 rfl C d_H_padBlock_68 (by decide) ?_
      refine bv_goto 74 C d_H_padBlock_69 (by decide) ?_
      refine bv_wk [(0, .ref (ad 2)), (1, .int n)] ⟨rfl, rfl, trivial⟩ ?_
      exact t74 _ b _
  have t11 : ∀ (b : Int32), bV p l e { frames := 0, cells := 0, slots := 0, locals := 0 } s m args below meth c dd A 7 0 0 (fun v ad' w' N' => ad = ad' ∧ N = N' ∧ v = none ∧ ∃ f, w' = va_up w 3 (aI dd 64 f)) bNo 11 (bO [(0, .ref (ad 2)), (1, .int n), (2, .long x)]) [.int b] ad w N 0 0 := by
    intro b
    refine bv_istore 13 rfl C d_H_padBlock_11 (by decide) ?_
    refine bv_iload 15 rfl C d_H_padBlock_13 rfl ?_
    refine bv_if_eq 34 18 rfl C d_H_padBlock_15 (by decide) (fun h => ?_) (fun h => ?_)
    · refine bv_lload_n 35 rfl C d_H_padBlock_34 rfl ?_
      refine bv_wk [(0, .ref (ad 2)), (1, .int n), (4, .int b)] ⟨rfl, rfl, rfl, trivial⟩ ?_
      exact t35 b _
    · refine bv_lload_n 19 rfl C d_H_padBlock_18 rfl ?_
      refine bv_ldc2 22 rfl C t2_10 d_H_padBlock_19 ?_
      refine bv_bipush (v := nI 56) 24 rfl C d_H_padBlock_22 (by decide) ?_
      refine bv_bipush (v := nI 8) 26 rfl C d_H_padBlock_24 (by decide) ?_
      refine bv_iload_n 27 rfl C d_H_padBlock_26 rfl ?_
      refine bv_imul 28 rfl C d_H_padBlock_27 ?_
      refine bv_isub 29 rfl C d_H_padBlock_28 ?_
      refine bv_lshl 30 rfl C d_H_padBlock_29 rfl ?_
      refine bv_lor 31 rfl C d_H_padBlock_30 ?_
      refine bv_goto 35 C d_H_padBlock_31 (by decide) ?_
      refine bv_wk [(0, .ref (ad 2)), (1, .int n), (4, .int b)] ⟨rfl, rfl, rfl, trivial⟩ ?_
      exact t35 b _
  refine bv_iload_n 1 rfl C d_H_padBlock_0 rfl ?_
  refine bv_bipush (v := nI 8) 3 rfl C d_H_padBlock_1 (by decide) ?_
  refine bv_icmp_ge 10 6 rfl C d_H_padBlock_3 (by decide) (fun h => ?_) (fun h => ?_)
  · refine bv_iconst (v := nI 0) 11 rfl C d_H_padBlock_10 (by decide) ?_
    exact t11 _
  · refine bv_iconst (v := nI 1) 7 rfl C d_H_padBlock_6 (by decide) ?_
    refine bv_goto 11 C d_H_padBlock_7 (by decide) ?_
    exact t11 _
theorem lp_expand (C : bCx p R s m args meth c c_H_expandBlock R_H 6 none [] dd A) (hN : 305 ≤ N) (h2 : w 2 = .inr (4, [.ref (ad 3)])) (hRf : 1 ≤ R.frames) (hRl : 21 ≤ R.locals) (hc : cells ≤ R.cells) (hs : slots ≤ R.slots)
    (hx : ∀ f : Nat → Int32, bV p l e R s m args below meth c dd A 6 mc ms post thr 104 (bO []) [] ad (va_up w 3 (aI dd 64 f)) N cells slots) :
    ∀ (d i : Nat) (f : Nat → Int32), i + d = 64 → 16 ≤ i → bV p l e R s m args below meth c dd A 6 mc ms post thr 3 (bO [(0, .ref (ad 2)), (1, .int (nI i))]) [] ad (va_up w 3 (aI dd 64 f)) N cells slots := by
  have h2' : ∀ f : Nat → Int32, va_up w 3 (aI dd 64 f) 2 = .inr (4, [.ref (ad 3)]) := fun f => by rw [va_up_ne _ _ (by decide)]; exact h2
  intro d
  induction d with
  | zero =>
    intro i f hi h16
    obtain rfl : i = 64 := by omega
    refine bv_iload_n 4 rfl C d_H_expandBlock_3 rfl ?_
    refine bv_bipush (v := nI 64) 6 rfl C d_H_expandBlock_4 (by decide) ?_
    refine bv_icmp_ge 104 9 rfl C d_H_expandBlock_6 (by decide) (fun h => ?_) (fun h => absurd (nI_le (by decide) (by decide)) h)
    refine bv_wk [] trivial ?_
    exact hx f
  | succ d ih =>
    intro i f hi h16
    refine bv_iload_n 4 rfl C d_H_expandBlock_3 rfl ?_
    refine bv_bipush (v := nI 64) 6 rfl C d_H_expandBlock_4 (by decide) ?_
    refine bv_icmp_ge 104 9 rfl C d_H_expandBlock_6 (by decide) (fun h => absurd h (nI_ge (by omega) (by decide))) (fun h => ?_)
    refine bv_aload_n 10 rfl C d_H_expandBlock_9 rfl ?_
    refine bv_get 2 0 13 rfl C k_H (by omega) rfl (h2' f) (by decide) t1_52 rfl d_H_expandBlock_10 ?_
    refine bv_iload_n 14 rfl C d_H_expandBlock_13 rfl ?_
    refine bv_bipush (v := nI 15) 16 rfl C d_H_expandBlock_14 (by decide) ?_
    refine bv_isub 17 rfl C d_H_expandBlock_16 ?_
    refine bv_seti (nI (i - 15)) (pk_sub (by omega)) ?_
    refine bv_iald 3 (i - 15) 18 rfl C (by omega) rfl (va_up_self _ _ _) rfl (by omega) (by decide) d_H_expandBlock_17 ?_
    refine bv_istore_n 19 rfl C d_H_expandBlock_18 (by decide) ?_
    refine bv_aload_n 20 rfl C d_H_expandBlock_19 rfl ?_
    refine bv_get 2 0 23 rfl C k_H (by omega) rfl (h2' f) (by decide) t1_52 rfl d_H_expandBlock_20 ?_
    refine bv_iload_n 24 rfl C d_H_expandBlock_23 rfl ?_
    refine bv_iconst (v := nI 2) 25 rfl C d_H_expandBlock_24 (by decide) ?_
    refine bv_isub 26 rfl C d_H_expandBlock_25 ?_
    refine bv_seti (nI (i - 2)) (pk_sub (by omega)) ?_
    refine bv_iald 3 (i - 2) 27 rfl C (by omega) rfl (va_up_self _ _ _) rfl (by omega) (by decide) d_H_expandBlock_26 ?_
    refine bv_istore_n 28 rfl C d_H_expandBlock_27 (by decide) ?_
    refine bv_iload_n 29 rfl C d_H_expandBlock_28 rfl ?_
    refine bv_bipush (v := nI 7) 31 rfl C d_H_expandBlock_29 (by decide) ?_
    refine bv_call (rest := _) 34 rfl C d_H_expandBlock_31 ct_H_turnRight i_H_turnRight t1_3 (fun H locs ls _ => bs_S (av := [.int _, .int _]) C i_H_turnRight t2_16 t2_17 t1_3 (by decide) rfl rfl d_H_expandBlock_31 H locs ls) ⟨by first | decide | omega, by first | decide | omega⟩ (by omega) (by omega) (Nat.le_of_ble_eq_true rfl) (fun v ad1 w1 N1 hpo => ?_) (fun x Cn ad' w' N' hth => hth.elim)
    obtain ⟨rfl, rfl, rfl, y1, rfl⟩ := hpo
    refine bv_iload_n 35 rfl C d_H_expandBlock_34 rfl ?_
    refine bv_bipush (v := nI 18) 37 rfl C d_H_expandBlock_35 (by decide) ?_
    refine bv_call (rest := _) 40 rfl C d_H_expandBlock_37 ct_H_turnRight i_H_turnRight t1_3 (fun H locs ls _ => bs_S (av := [.int _, .int _]) C i_H_turnRight t2_16 t2_17 t1_3 (by decide) rfl rfl d_H_expandBlock_37 H locs ls) ⟨by first | decide | omega, by first | decide | omega⟩ (by omega) (by omega) (Nat.le_of_ble_eq_true rfl) (fun v ad1 w1 N1 hpo => ?_) (fun x Cn ad' w' N' hth => hth.elim)
    obtain ⟨rfl, rfl, rfl, y2, rfl⟩ := hpo
    refine bv_ixor 41 rfl C d_H_expandBlock_40 ?_
    refine bv_iload_n 42 rfl C d_H_expandBlock_41 rfl ?_
    refine bv_iconst (v := nI 3) 43 rfl C d_H_expandBlock_42 (by decide) ?_
    refine bv_iushr 44 rfl C d_H_expandBlock_43 rfl ?_
    refine bv_ixor 45 rfl C d_H_expandBlock_44 ?_
    refine bv_istore 47 rfl C d_H_expandBlock_45 (by decide) ?_
    refine bv_iload_n 48 rfl C d_H_expandBlock_47 rfl ?_
    refine bv_bipush (v := nI 17) 50 rfl C d_H_expandBlock_48 (by decide) ?_
    refine bv_call (rest := _) 53 rfl C d_H_expandBlock_50 ct_H_turnRight i_H_turnRight t1_3 (fun H locs ls _ => bs_S (av := [.int _, .int _]) C i_H_turnRight t2_16 t2_17 t1_3 (by decide) rfl rfl d_H_expandBlock_50 H locs ls) ⟨by first | decide | omega, by first | decide | omega⟩ (by omega) (by omega) (Nat.le_of_ble_eq_true rfl) (fun v ad1 w1 N1 hpo => ?_) (fun x Cn ad' w' N' hth => hth.elim)
    obtain ⟨rfl, rfl, rfl, y3, rfl⟩ := hpo
    refine bv_iload_n 54 rfl C d_H_expandBlock_53 rfl ?_
    refine bv_bipush (v := nI 19) 56 rfl C d_H_expandBlock_54 (by decide) ?_
    refine bv_call (rest := _) 59 rfl C d_H_expandBlock_56 ct_H_turnRight i_H_turnRight t1_3 (fun H locs ls _ => bs_S (av := [.int _, .int _]) C i_H_turnRight t2_16 t2_17 t1_3 (by decide) rfl rfl d_H_expandBlock_56 H locs ls) ⟨by first | decide | omega, by first | decide | omega⟩ (by omega) (by omega) (Nat.le_of_ble_eq_true rfl) (fun v ad1 w1 N1 hpo => ?_) (fun x Cn ad' w' N' hth => hth.elim)
    obtain ⟨rfl, rfl, rfl, y4, rfl⟩ := hpo
    refine bv_ixor 60 rfl C d_H_expandBlock_59 ?_
    refine bv_iload_n 61 rfl C d_H_expandBlock_60 rfl ?_
    refine bv_bipush (v := nI 10) 63 rfl C d_H_expandBlock_61 (by decide) ?_
    refine bv_iushr 64 rfl C d_H_expandBlock_63 rfl ?_
    refine bv_ixor 65 rfl C d_H_expandBlock_64 ?_
    refine bv_istore 67 rfl C d_H_expandBlock_65 (by decide) ?_
    refine bv_aload_n 68 rfl C d_H_expandBlock_67 rfl ?_
    refine bv_get 2 0 71 rfl C k_H (by omega) rfl (h2' f) (by decide) t1_52 rfl d_H_expandBlock_68 ?_
    refine bv_iload_n 72 rfl C d_H_expandBlock_71 rfl ?_
    refine bv_iload 74 rfl C d_H_expandBlock_72 rfl ?_
    refine bv_aload_n 75 rfl C d_H_expandBlock_74 rfl ?_
    refine bv_get 2 0 78 rfl C k_H (by omega) rfl (h2' f) (by decide) t1_52 rfl d_H_expandBlock_75 ?_
    refine bv_iload_n 79 rfl C d_H_expandBlock_78 rfl ?_
    refine bv_bipush (v := nI 7) 81 rfl C d_H_expandBlock_79 (by decide) ?_
    refine bv_isub 82 rfl C d_H_expandBlock_81 ?_
    refine bv_seti (nI (i - 7)) (pk_sub (by omega)) ?_
    refine bv_iald 3 (i - 7) 83 rfl C (by omega) rfl (va_up_self _ _ _) rfl (by omega) (by decide) d_H_expandBlock_82 ?_
    refine bv_iadd 84 rfl C d_H_expandBlock_83 ?_
    refine bv_iload 86 rfl C d_H_expandBlock_84 rfl ?_
    refine bv_iadd 87 rfl C d_H_expandBlock_86 ?_
    refine bv_aload_n 88 rfl C d_H_expandBlock_87 rfl ?_
    refine bv_get 2 0 91 rfl C k_H (by omega) rfl (h2' f) (by decide) t1_52 rfl d_H_expandBlock_88 ?_
    refine bv_iload_n 92 rfl C d_H_expandBlock_91 rfl ?_
    refine bv_bipush (v := nI 16) 94 rfl C d_H_expandBlock_92 (by decide) ?_
    refine bv_isub 95 rfl C d_H_expandBlock_94 ?_
    refine bv_seti (nI (i - 16)) (pk_sub (by omega)) ?_
    refine bv_iald 3 (i - 16) 96 rfl C (by omega) rfl (va_up_self _ _ _) rfl (by omega) (by decide) d_H_expandBlock_95 ?_
    refine bv_iadd 97 rfl C d_H_expandBlock_96 ?_
    refine bv_iast 3 i 98 rfl C (by omega) rfl (va_up_self _ _ _) rfl (by omega) (by decide) d_H_expandBlock_97 ?_
    rw [bu_same]
    refine bv_iinc 101 rfl C d_H_expandBlock_98 rfl (by first | exact b_inc _ | rfl) (by decide) ?_
    refine bv_goto 3 C d_H_expandBlock_101 (by decide) ?_
    refine bv_wk [(0, .ref (ad 2)), (1, .int (nI (i + 1)))] ⟨rfl, rfl, trivial⟩ ?_
    exact ih (i + 1) _ (by omega) (by omega)
theorem ct_H_expandBlock {f0 : Nat → Int32} (hN : 305 ≤ N) (h2 : w 2 = .inr (4, [.ref (ad 3)])) (h3 : w 3 = aI dd 64 f0) : bK l dd y_H_expandBlock 1 21 0 0 [.ref (ad 2)] ad w N (fun v ad' w' N' => ad = ad' ∧ N = N' ∧ v = none ∧ ∃ f, w' = va_up w 3 (aI dd 64 f)) bNo := by
  refine bK.start [(0, .ref (ad 2))] (by decide) t2_15 (Nat.le_of_ble_eq_true rfl) rfl (fun p e s m args below meth c A hnm C => ?_)
  refine bv_bipush (v := nI 16) 2 rfl C d_H_expandBlock_0 (by decide) ?_
  refine bv_istore_n 3 rfl C d_H_expandBlock_2 (by decide) ?_
  have hW : w = va_up w 3 (aI dd 64 f0) := by
    funext k
    by_cases hk : k = 3
    · rw [hk, va_up_self, h3]
    · rw [va_up_ne _ _ hk]
  refine bv_w (va_up w 3 (aI dd 64 f0)) (fun k _ => by rw [← hW]) ?_
  refine bv_wk [(0, .ref (ad 2)), (1, .int (nI 16))] ⟨rfl, rfl, trivial⟩ ?_
  refine lp_expand C hN h2 (by decide) (by decide) (by decide) (by decide) (fun f => ?_) 48 16 f0 rfl (Nat.le_refl _)
  exact bv_return C rfl d_H_expandBlock_104 (Nat.le_refl _) (Nat.le_refl _) ⟨rfl, rfl, rfl, _, rfl⟩
end bSha

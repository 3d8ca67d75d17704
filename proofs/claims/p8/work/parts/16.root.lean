section bMr
variable {p : Program} {l : Launch} {e : Env} {R : Room} {s : State} {m : MethodId} {args : Array Value} {below : List Frame} {meth : Method} {c : Code} {dd : bD} {A : Nat → Prop} {mc ms : Nat} {post : Option Value → (Nat → Nat) → (Nat → va_E) → Nat → Prop} {thr : String → (Nat → Nat) → (Nat → va_E) → Nat → Prop} {ad : Nat → Nat} {w : Nat → va_E} {N cells slots : Nat}
variable {a : Nat} {th ve wr cu dn pp : Int32} {pw : Nat}
theorem lp_root (C : bCx p R s m args meth c c_M_root R_M 6 (some .int) [] dd A) (hN : 323 ≤ N) (ha : ad 305 = a) (hm : w 305 = mO ad th ve wr cu dn) (hpw : pw ≤ 3) (hRf : 1 ≤ R.frames) (hRl : 34 ≤ R.locals) (hc : cells ≤ R.cells) (hs : slots ≤ R.slots)
    (hx : ∀ (x : Int64) (g : Nat → Int64), bV p l e R s m args below meth c dd A 6 mc ms post thr 39 (bO [(3, .long x)]) [] ad (va_up w 322 (aL dd 8 g)) N cells slots) :
    ∀ (d : Nat) (x : Int64) (g : Nat → Int64), d ≤ 36 → bV p l e R s m args below meth c dd A 6 mc ms post thr 6 (bO [(0, .ref a), (1, .int pp), (2, .int (nI pw)), (3, .long x), (5, .int (bdn d))]) [] ad (va_up w 322 (aL dd 8 g)) N cells slots := by
  intro d
  induction d with
  | zero =>
    intro x g hd
    refine bv_iload 8 rfl C d_M_root_6 rfl ?_
    refine bv_if_lt 39 11 rfl C d_M_root_8 (by decide) (fun h => ?_) (fun h => absurd (show bdn 0 < 0 by decide) h)
    refine bv_wk [(3, .long x)] ⟨rfl, trivial⟩ ?_
    exact hx x g
  | succ d ih =>
    intro x g hd
    have tl : ∀ (y : Int64) (g1 : Nat → Int64), bV p l e R s m args below meth c dd A 6 mc ms post thr 33 (bO [(0, .ref a), (1, .int pp), (2, .int (nI pw)), (3, .long y), (5, .int (nI d))]) [] ad (va_up w 322 (aL dd 8 g1)) N cells slots := by
      intro y g1
      refine bv_iinc (v := (bdn d)) 36 rfl C d_M_root_33 rfl (b_dec d) (by decide) ?_
      refine bv_goto 6 C d_M_root_36 (by decide) ?_
      refine bv_wk [(0, .ref a), (1, .int pp), (2, .int (nI pw)), (3, .long y), (5, .int (bdn d))] ⟨rfl, rfl, rfl, rfl, rfl, trivial⟩ ?_
      exact ih y g1 (by omega)
    show bV p l e R s m args below meth c dd A 6 mc ms post thr 6 (bO [(0, .ref a), (1, .int pp), (2, .int (nI pw)), (3, .long x), (5, .int (nI d))]) [] ad (va_up w 322 (aL dd 8 g)) N cells slots
    refine bv_iload 8 rfl C d_M_root_6 rfl ?_
    refine bv_if_lt 39 11 rfl C d_M_root_8 (by decide) (fun h => absurd h (nI_pos (by omega))) (fun h => ?_)
    refine bv_aload_n 12 rfl C d_M_root_11 rfl ?_
    refine bv_lload_n 13 rfl C d_M_root_12 rfl ?_
    refine bv_lconst (v := 1) 14 rfl C d_M_root_13 (by decide) ?_
    refine bv_iload 16 rfl C d_M_root_14 rfl ?_
    refine bv_lshl 17 rfl C d_M_root_16 rfl ?_
    refine bv_lor 18 rfl C d_M_root_17 ?_
    refine bv_iload_n 19 rfl C d_M_root_18 rfl ?_
    refine bv_iload_n 20 rfl C d_M_root_19 rfl ?_
    refine bv_call (rest := []) 23 rfl C d_M_root_20 (ct_M_isAbove (th := th) (ve := ve) (wr := wr) (cu := cu) (dn := dn) hN ha ((mup (by decide)).trans hm) (va_up_self _ _ _) hpw) i_M_isAbove t1_8 (fun H locs ls hP => bs_V (av := [.long _, .int pp, .int (nI pw)]) 305 C i_M_isAbove t3_102 t3_104 s_37 (by omega) ha ((mup (by decide)).trans hm) rfl (by decide) rfl rfl d_M_root_20 H locs ls hP) ⟨by first | decide | omega, by first | decide | omega⟩ (by omega) (by omega) (Nat.le_of_ble_eq_true rfl) (fun v ad1 w1 N1 hpo => ?_) (fun x Cn ad' w' N' hth => hth.elim)
    obtain ⟨rfl, rfl, ⟨g1, rfl⟩, r, rfl⟩ := hpo
    rw [bu_same]
    refine bv_cs cells slots (Nat.le_refl _) (Nat.le_refl _) ?_
    show bV p l e R s m args below meth c dd A 6 mc ms post thr 23 _ [.int r] _ _ _ cells slots
    refine bv_if_ne 33 26 rfl C d_M_root_23 (by decide) (fun h => ?_) (fun h => ?_)
    · refine bv_wk [(0, .ref a), (1, .int pp), (2, .int (nI pw)), (3, .long x), (5, .int (nI d))] ⟨rfl, rfl, rfl, rfl, rfl, trivial⟩ ?_
      exact tl x g1
    · refine bv_lload_n 27 rfl C d_M_root_26 rfl ?_
      refine bv_lconst (v := 1) 28 rfl C d_M_root_27 (by decide) ?_
      refine bv_iload 30 rfl C d_M_root_28 rfl ?_
      refine bv_lshl 31 rfl C d_M_root_30 rfl ?_
      refine bv_lor 32 rfl C d_M_root_31 ?_
      refine bv_lstore_n 33 rfl C d_M_root_32 (by decide) ?_
      refine bv_wk [(0, .ref a), (1, .int pp), (2, .int (nI pw)), (3, .long _), (5, .int (nI d))] ⟨rfl, rfl, rfl, rfl, rfl, trivial⟩ ?_
      exact tl _ g1
theorem ct_M_root (hN : 323 ≤ N) (ha : ad 305 = a) (hm : w 305 = mO ad th ve wr cu dn) {g0 : Nat → Int64} (hl : w 322 = aL dd 8 g0) (hpw : pw ≤ 3) : bK l dd y_M_root 1 34 0 0 [.ref a, .int pp, .int (nI pw)] ad w N (fun v ad' w' N' => ad = ad' ∧ N = N' ∧ (∃ g, w' = va_up w 322 (aL dd 8 g)) ∧ ∃ r : Int32, v = some (.int r)) bNo := by
  refine bK.start [(0, .ref a), (1, .int pp), (2, .int (nI pw))] (by decide) t3_101 (Nat.le_of_ble_eq_true rfl) rfl (fun p e s m args below meth c A hnm C => ?_)
  refine bv_lconst (v := 0) 1 rfl C d_M_root_0 (by decide) ?_
  refine bv_lstore_n 2 rfl C d_M_root_1 (by decide) ?_
  refine bv_bipush (v := nI 35) 4 rfl C d_M_root_2 (by decide) ?_
  refine bv_istore 6 rfl C d_M_root_4 (by decide) ?_
  have hW : w = va_up w 322 (aL dd 8 g0) := by
    funext k
    by_cases hk : k = 322
    · rw [hk, va_up_self, hl]
    · rw [va_up_ne _ _ hk]
  refine bv_w (va_up w 322 (aL dd 8 g0)) (fun k _ => by rw [← hW]) ?_
  refine bv_wk [(0, .ref a), (1, .int pp), (2, .int (nI pw)), (3, .long 0), (5, .int (bdn 36))] ⟨rfl, rfl, rfl, rfl, rfl, trivial⟩ ?_
  refine lp_root C hN ha hm hpw (by decide) (by decide) (by decide) (by decide) (fun x g => ?_) 36 0 g0 (Nat.le_refl _)
  refine bv_lload_n 40 rfl C d_M_root_39 rfl ?_
  refine bv_l2i 41 rfl C d_M_root_40 rfl ?_
  exact bv_ireturn C rfl d_M_root_41 (Nat.le_refl _) (Nat.le_refl _) ⟨rfl, rfl, ⟨_, rfl⟩, _, rfl⟩
end bMr

section bMa
variable {p : Program} {l : Launch} {e : Env} {R : Room} {s : State} {m : MethodId} {args : Array Value} {below : List Frame} {meth : Method} {c : Code} {dd : bD} {A : Nat → Prop} {mc ms : Nat} {post : Option Value → (Nat → Nat) → (Nat → va_E) → Nat → Prop} {thr : String → (Nat → Nat) → (Nat → va_E) → Nat → Prop} {ad : Nat → Nat} {w : Nat → va_E} {N cells slots : Nat}
variable {a : Nat} {th ve wr cu dn pp : Int32} {x lw hg : Int64} {pw : Nat}
abbrev loA (a : Nat) (x : Int64) (pp : Int32) (pw : Nat) (lw hg : Int64) (k : Int32) : Nat → Option Value := bO [(0, .ref a), (1, .long x), (3, .int pp), (4, .int (nI pw)), (5, .long lw), (7, .long hg), (9, .int k)]
abbrev loB (a : Nat) (x : Int64) (pp : Int32) (pw : Nat) (lw hg : Int64) (k k2 : Int32) : Nat → Option Value := bO [(0, .ref a), (1, .long x), (3, .int pp), (4, .int (nI pw)), (5, .long lw), (7, .long hg), (9, .int k), (10, .int k2)]
theorem mup {w : Nat → va_E} {e1 : va_E} {k : Nat} (h : k ≠ 322) : va_up w 322 e1 k = w k := va_up_ne _ _ h
theorem lp_above1 (C : bCx p R s m args meth c c_M_isAbove R_M 15 (some .boolean) [] dd A) (hN : 323 ≤ N) (ha : ad 305 = a) (hm : w 305 = mO ad th ve wr cu dn)
    (hx : ∀ g, bV p l e R s m args below meth c dd A 15 mc ms post thr 46 (loA a x pp pw lw hg (nI 8)) [] ad (va_up w 322 (aL dd 8 g)) N cells slots) :
    ∀ (d i : Nat) (g : Nat → Int64), i + d = 8 → bV p l e R s m args below meth c dd A 15 mc ms post thr 16 (loA a x pp pw lw hg (nI i)) [] ad (va_up w 322 (aL dd 8 g)) N cells slots := by
  intro d
  induction d with
  | zero =>
    intro i g hi
    obtain rfl : i = 8 := by omega
    refine bv_iload 18 rfl C d_M_isAbove_16 rfl ?_
    refine bv_bipush (v := nI 8) 20 rfl C d_M_isAbove_18 (by decide) ?_
    refine bv_icmp_ge 46 23 rfl C d_M_isAbove_20 (by decide) (fun h => ?_) (fun h => absurd (nI_le (by decide) (by decide)) h)
    exact hx g
  | succ d ih =>
    intro i g hi
    have tl : ∀ y : Int64, bV p l e R s m args below meth c dd A 15 mc ms post thr 39 (loA a x pp pw lw hg (nI i)) [.long y, .int (nI i), .ref (ad 322)] ad (va_up w 322 (aL dd 8 g)) N cells slots := by
      intro y
      refine bv_last 322 i 40 rfl C (by omega) rfl (va_up_self _ _ _) rfl (by omega) (by decide) d_M_isAbove_39 ?_
      rw [bu_same]
      refine bv_iinc 43 rfl C d_M_isAbove_40 rfl (by first | exact b_inc _ | rfl) (by decide) ?_
      refine bv_goto 16 C d_M_isAbove_43 (by decide) ?_
      refine bv_wk [(0, .ref a), (1, .long x), (3, .int pp), (4, .int (nI pw)), (5, .long lw), (7, .long hg), (9, .int (nI (i + 1)))] ⟨rfl, rfl, rfl, rfl, rfl, rfl, rfl, trivial⟩ ?_
      exact ih (i + 1) _ (by omega)
    refine bv_iload 18 rfl C d_M_isAbove_16 rfl ?_
    refine bv_bipush (v := nI 8) 20 rfl C d_M_isAbove_18 (by decide) ?_
    refine bv_icmp_ge 46 23 rfl C d_M_isAbove_20 (by decide) (fun h => absurd h (nI_ge (by omega) (by decide))) (fun h => ?_)
    refine bv_aload_n 24 rfl C d_M_isAbove_23 rfl ?_
    refine bv_get 305 21 27 rfl C k_M (by omega) ha ((mup (by decide)).trans hm) (by decide) t3_128 rfl d_M_isAbove_24 ?_
    refine bv_iload 29 rfl C d_M_isAbove_27 rfl ?_
    refine bv_iload 31 rfl C d_M_isAbove_29 rfl ?_
    refine bv_if_ne 38 34 rfl C d_M_isAbove_31 (by decide) (fun h => ?_) (fun h => ?_)
    · refine bv_lconst (v := 0) 39 rfl C d_M_isAbove_38 (by decide) ?_
      exact tl _
    · refine bv_lconst (v := 1) 35 rfl C d_M_isAbove_34 (by decide) ?_
      refine bv_goto 39 C d_M_isAbove_35 (by decide) ?_
      exact tl _
theorem lp_above3 (C : bCx p R s m args meth c c_M_isAbove R_M 15 (some .boolean) [] dd A) (hN : 323 ≤ N) (ha : ad 305 = a) (hm : w 305 = mO ad th ve wr cu dn) {ki : Int32}
    (hx : ∀ g, bV p l e R s m args below meth c dd A 15 mc ms post thr 110 (loB a x pp pw lw hg ki (-1)) [] ad (va_up w 322 (aL dd 8 g)) N cells slots) :
    ∀ (d : Nat) (g : Nat → Int64), d ≤ 8 → bV p l e R s m args below meth c dd A 15 mc ms post thr 60 (loB a x pp pw lw hg ki (bdn d)) [] ad (va_up w 322 (aL dd 8 g)) N cells slots := by
  intro d
  induction d with
  | zero =>
    intro g hi
    refine bv_iload 62 rfl C d_M_isAbove_60 rfl ?_
    refine bv_if_lt 110 65 rfl C d_M_isAbove_62 (by decide) (fun h => ?_) (fun h => absurd (show bdn 0 < 0 by decide) h)
    exact hx g
  | succ d ih =>
    intro g hi
    have tl : ∀ y z : Int64, bV p l e R s m args below meth c dd A 15 mc ms post thr 102 (loB a x pp pw lw hg ki (nI d)) [.long z, .long y, .int (nI d), .ref (ad 322)] ad (va_up w 322 (aL dd 8 g)) N cells slots := by
      intro y z
      refine bv_ladd 103 rfl C d_M_isAbove_102 ?_
      refine bv_last 322 d 104 rfl C (by omega) rfl (va_up_self _ _ _) rfl (by omega) (by decide) d_M_isAbove_103 ?_
      rw [bu_same]
      refine bv_iinc (v := (bdn d)) 107 rfl C d_M_isAbove_104 rfl (b_dec d) (by decide) ?_
      refine bv_goto 60 C d_M_isAbove_107 (by decide) ?_
      refine bv_wk [(0, .ref a), (1, .long x), (3, .int pp), (4, .int (nI pw)), (5, .long lw), (7, .long hg), (9, .int ki), (10, .int (bdn d))] ⟨rfl, rfl, rfl, rfl, rfl, rfl, rfl, rfl, trivial⟩ ?_
      exact ih _ (by omega)
    show bV p l e R s m args below meth c dd A 15 mc ms post thr 60 (loB a x pp pw lw hg ki (nI d)) [] ad (va_up w 322 (aL dd 8 g)) N cells slots
    refine bv_iload 62 rfl C d_M_isAbove_60 rfl ?_
    refine bv_if_lt 110 65 rfl C d_M_isAbove_62 (by decide) (fun h => absurd h (nI_pos (by omega))) (fun h => ?_)
    refine bv_aload_n 66 rfl C d_M_isAbove_65 rfl ?_
    refine bv_get 305 21 69 rfl C k_M (by omega) ha ((mup (by decide)).trans hm) (by decide) t3_128 rfl d_M_isAbove_66 ?_
    refine bv_iload 71 rfl C d_M_isAbove_69 rfl ?_
    refine bv_aload_n 72 rfl C d_M_isAbove_71 rfl ?_
    refine bv_get 305 21 75 rfl C k_M (by omega) ha ((mup (by decide)).trans hm) (by decide) t3_128 rfl d_M_isAbove_72 ?_
    refine bv_iload 77 rfl C d_M_isAbove_75 rfl ?_
    refine bv_lald 322 d 78 rfl C (by omega) rfl (va_up_self _ _ _) rfl (by omega) (by decide) d_M_isAbove_77 ?_
    refine bv_lload 80 rfl C d_M_isAbove_78 rfl ?_
    refine bv_lmul 81 rfl C d_M_isAbove_80 ?_
    refine bv_iload 83 rfl C d_M_isAbove_81 rfl ?_
    refine bv_if_le 101 86 rfl C d_M_isAbove_83 (by decide) (fun h => ?_) (fun h => ?_)
    · refine bv_lconst (v := 0) 102 rfl C d_M_isAbove_101 (by decide) ?_
      exact tl _ _
    · have hd : 0 < d := by
        cases d with
        | zero => exact absurd (show nI 0 ≤ 0 by decide) h
        | succ n => omega
      refine bv_aload_n 87 rfl C d_M_isAbove_86 rfl ?_
      refine bv_get 305 21 90 rfl C k_M (by omega) ha ((mup (by decide)).trans hm) (by decide) t3_128 rfl d_M_isAbove_87 ?_
      refine bv_iload 92 rfl C d_M_isAbove_90 rfl ?_
      refine bv_iconst (v := nI 1) 93 rfl C d_M_isAbove_92 (by decide) ?_
      refine bv_isub 94 rfl C d_M_isAbove_93 ?_
      refine bv_seti (nI (d - 1)) (pk_sub (show 1 ≤ d by omega)) ?_
      refine bv_lald 322 (d - 1) 95 rfl C (by omega) rfl (va_up_self _ _ _) rfl (by omega) (by decide) d_M_isAbove_94 ?_
      refine bv_lload 97 rfl C d_M_isAbove_95 rfl ?_
      refine bv_lmul 98 rfl C d_M_isAbove_97 ?_
      refine bv_goto 102 C d_M_isAbove_98 (by decide) ?_
      exact tl _ _
theorem lp_above4 (C : bCx p R s m args meth c c_M_isAbove R_M 15 (some .boolean) [] dd A) (hN : 323 ≤ N) (ha : ad 305 = a) (hm : w 305 = mO ad th ve wr cu dn) {ki : Int32}
    (hx : ∀ g, bV p l e R s m args below meth c dd A 15 mc ms post thr 166 (loB a x pp pw lw hg ki (nI 7)) [] ad (va_up w 322 (aL dd 8 g)) N cells slots) :
    ∀ (d i : Nat) (g : Nat → Int64), i + d = 7 → bV p l e R s m args below meth c dd A 15 mc ms post thr 113 (loB a x pp pw lw hg ki (nI i)) [] ad (va_up w 322 (aL dd 8 g)) N cells slots := by
  intro d
  induction d with
  | zero =>
    intro i g hi
    obtain rfl : i = 7 := by omega
    refine bv_iload 115 rfl C d_M_isAbove_113 rfl ?_
    refine bv_bipush (v := nI 7) 117 rfl C d_M_isAbove_115 (by decide) ?_
    refine bv_icmp_ge 166 120 rfl C d_M_isAbove_117 (by decide) (fun h => ?_) (fun h => absurd (nI_le (by decide) (by decide)) h)
    exact hx g
  | succ d ih =>
    intro i g hi
    refine bv_iload 115 rfl C d_M_isAbove_113 rfl ?_
    refine bv_bipush (v := nI 7) 117 rfl C d_M_isAbove_115 (by decide) ?_
    refine bv_icmp_ge 166 120 rfl C d_M_isAbove_117 (by decide) (fun h => absurd h (nI_ge (by omega) (by decide))) (fun h => ?_)
    refine bv_aload_n 121 rfl C d_M_isAbove_120 rfl ?_
    refine bv_get 305 21 124 rfl C k_M (by omega) ha ((mup (by decide)).trans hm) (by decide) t3_128 rfl d_M_isAbove_121 ?_
    refine bv_iload 126 rfl C d_M_isAbove_124 rfl ?_
    refine bv_iconst (v := nI 1) 127 rfl C d_M_isAbove_126 (by decide) ?_
    refine bv_iadd 128 rfl C d_M_isAbove_127 ?_
    refine bv_seti (nI (i + 1)) (nI_add i 1) ?_
    refine bv_dup2_11 129 rfl C d_M_isAbove_128 rfl rfl ?_
    refine bv_lald 322 (i + 1) 130 rfl C (by omega) rfl (va_up_self _ _ _) rfl (by omega) (by decide) d_M_isAbove_129 ?_
    refine bv_aload_n 131 rfl C d_M_isAbove_130 rfl ?_
    refine bv_get 305 21 134 rfl C k_M (by omega) ha ((mup (by decide)).trans hm) (by decide) t3_128 rfl d_M_isAbove_131 ?_
    refine bv_iload 136 rfl C d_M_isAbove_134 rfl ?_
    refine bv_lald 322 i 137 rfl C (by omega) rfl (va_up_self _ _ _) rfl (by omega) (by decide) d_M_isAbove_136 ?_
    refine bv_bipush (v := nI 20) 139 rfl C d_M_isAbove_137 (by decide) ?_
    refine bv_lshr 140 rfl C d_M_isAbove_139 rfl ?_
    refine bv_ladd 141 rfl C d_M_isAbove_140 ?_
    refine bv_last 322 (i + 1) 142 rfl C (by omega) rfl (va_up_self _ _ _) rfl (by omega) (by decide) d_M_isAbove_141 ?_
    rw [bu_same]
    refine bv_aload_n 143 rfl C d_M_isAbove_142 rfl ?_
    refine bv_get 305 21 146 rfl C k_M (by omega) ha ((mup (by decide)).trans hm) (by decide) t3_128 rfl d_M_isAbove_143 ?_
    refine bv_iload 148 rfl C d_M_isAbove_146 rfl ?_
    refine bv_aload_n 149 rfl C d_M_isAbove_148 rfl ?_
    refine bv_get 305 21 152 rfl C k_M (by omega) ha ((mup (by decide)).trans hm) (by decide) t3_128 rfl d_M_isAbove_149 ?_
    refine bv_iload 154 rfl C d_M_isAbove_152 rfl ?_
    refine bv_lald 322 i 155 rfl C (by omega) rfl (va_up_self _ _ _) rfl (by omega) (by decide) d_M_isAbove_154 ?_
    refine bv_ldc2 158 rfl C t3_106 d_M_isAbove_155 ?_
    refine bv_land 159 rfl C d_M_isAbove_158 ?_
    refine bv_last 322 i 160 rfl C (by omega) rfl (va_up_self _ _ _) rfl (by omega) (by decide) d_M_isAbove_159 ?_
    rw [bu_same]
    refine bv_iinc 163 rfl C d_M_isAbove_160 rfl (by first | exact b_inc _ | rfl) (by decide) ?_
    refine bv_goto 113 C d_M_isAbove_163 (by decide) ?_
    refine bv_wk [(0, .ref a), (1, .long x), (3, .int pp), (4, .int (nI pw)), (5, .long lw), (7, .long hg), (9, .int ki), (10, .int (nI (i + 1)))] ⟨rfl, rfl, rfl, rfl, rfl, rfl, rfl, rfl, trivial⟩ ?_
    exact ih (i + 1) _ (by omega)
theorem lp_above2 (C : bCx p R s m args meth c c_M_isAbove R_M 15 (some .boolean) [] dd A) (hN : 323 ≤ N) (ha : ad 305 = a) (hm : w 305 = mO ad th ve wr cu dn) (hpw : pw ≤ 3)
    (hx : ∀ g, bV p l e R s m args below meth c dd A 15 mc ms post thr 172 (loA a x pp pw lw hg (nI pw)) [] ad (va_up w 322 (aL dd 8 g)) N cells slots) :
    ∀ (d i : Nat) (g : Nat → Int64), i + d = pw → bV p l e R s m args below meth c dd A 15 mc ms post thr 49 (loA a x pp pw lw hg (nI i)) [] ad (va_up w 322 (aL dd 8 g)) N cells slots := by
  intro d
  induction d with
  | zero =>
    intro i g hi
    obtain rfl : i = pw := by omega
    refine bv_iload 51 rfl C d_M_isAbove_49 rfl ?_
    refine bv_iload 53 rfl C d_M_isAbove_51 rfl ?_
    refine bv_icmp_ge 172 56 rfl C d_M_isAbove_53 (by decide) (fun h => ?_) (fun h => absurd (nI_le (by omega) (by omega)) h)
    exact hx g
  | succ d ih =>
    intro i g hi
    refine bv_iload 51 rfl C d_M_isAbove_49 rfl ?_
    refine bv_iload 53 rfl C d_M_isAbove_51 rfl ?_
    refine bv_icmp_ge 172 56 rfl C d_M_isAbove_53 (by decide) (fun h => absurd h (nI_ge (by omega) (by omega))) (fun h => ?_)
    refine bv_bipush (v := nI 7) 58 rfl C d_M_isAbove_56 (by decide) ?_
    refine bv_istore 60 rfl C d_M_isAbove_58 (by decide) ?_
    refine bv_wk [(0, .ref a), (1, .long x), (3, .int pp), (4, .int (nI pw)), (5, .long lw), (7, .long hg), (9, .int (nI i)), (10, .int (bdn 8))] ⟨rfl, rfl, rfl, rfl, rfl, rfl, rfl, rfl, trivial⟩ ?_
    refine lp_above3 C hN ha hm (fun g1 => ?_) 8 g (Nat.le_refl _)
    refine bv_iconst (v := nI 0) 111 rfl C d_M_isAbove_110 (by decide) ?_
    refine bv_istore 113 rfl C d_M_isAbove_111 (by decide) ?_
    refine bv_wk [(0, .ref a), (1, .long x), (3, .int pp), (4, .int (nI pw)), (5, .long lw), (7, .long hg), (9, .int (nI i)), (10, .int (nI 0))] ⟨rfl, rfl, rfl, rfl, rfl, rfl, rfl, rfl, trivial⟩ ?_
    refine lp_above4 C hN ha hm (fun g2 => ?_) 7 0 g1 rfl
    refine bv_iinc 169 rfl C d_M_isAbove_166 rfl (by first | exact b_inc _ | rfl) (by decide) ?_
    refine bv_goto 49 C d_M_isAbove_169 (by decide) ?_
    refine bv_wk [(0, .ref a), (1, .long x), (3, .int pp), (4, .int (nI pw)), (5, .long lw), (7, .long hg), (9, .int (nI (i + 1)))] ⟨rfl, rfl, rfl, rfl, rfl, rfl, rfl, trivial⟩ ?_
    exact ih (i + 1) g2 (by omega)
theorem lp_above5 (C : bCx p R s m args meth c c_M_isAbove R_M 15 (some .boolean) [] dd A) (hN : 323 ≤ N) (ha : ad 305 = a) (hm : w 305 = mO ad th ve wr cu dn) {ka : Int32} {sd : Int64} {g : Nat → Int64}
    (hx : ∀ (r : Int32) (lo : Nat → Option Value), r = 0 ∨ r = 1 → bV p l e R s m args below meth c dd A 15 mc ms post thr 271 lo [.int r] ad (va_up w 322 (aL dd 8 g)) N cells slots) (hx2 : ∀ (lo : Nat → Option Value), bV p l e R s m args below meth c dd A 15 mc ms post thr 279 lo [.int (nI 0)] ad (va_up w 322 (aL dd 8 g)) N cells slots) :
    ∀ (d : Nat), d ≤ 8 → bV p l e R s m args below meth c dd A 15 mc ms post thr 199 (bO [(0, .ref a), (9, .int ka), (10, .long sd), (12, .int (bdn d))]) [] ad (va_up w 322 (aL dd 8 g)) N cells slots := by
  intro d
  induction d with
  | zero =>
    intro hi
    refine bv_iload 201 rfl C d_M_isAbove_199 rfl ?_
    refine bv_if_lt 278 204 rfl C d_M_isAbove_201 (by decide) (fun h => ?_) (fun h => absurd (show bdn 0 < 0 by decide) h)
    refine bv_iconst (v := nI 0) 279 rfl C d_M_isAbove_278 (by decide) ?_
    exact hx2 _
  | succ d ih =>
    intro hi
    have tl : ∀ y : Int64, bV p l e R s m args below meth c dd A 15 mc ms post thr 238 (bO [(0, .ref a), (9, .int ka), (10, .long sd), (12, .int (nI d))]) [.long y] ad (va_up w 322 (aL dd 8 g)) N cells slots := by
      intro y
      refine bv_lstore 240 rfl C d_M_isAbove_238 (by decide) ?_
      refine bv_aload_n 241 rfl C d_M_isAbove_240 rfl ?_
      refine bv_get 305 21 244 rfl C k_M (by omega) ha ((mup (by decide)).trans hm) (by decide) t3_128 rfl d_M_isAbove_241 ?_
      refine bv_iload 246 rfl C d_M_isAbove_244 rfl ?_
      refine bv_lald 322 d 247 rfl C (by omega) rfl (va_up_self _ _ _) rfl (by omega) (by decide) d_M_isAbove_246 ?_
      refine bv_lload 249 rfl C d_M_isAbove_247 rfl ?_
      refine bv_lcmp 250 rfl C d_M_isAbove_249 ?_
      refine bv_if_eq 272 253 rfl C d_M_isAbove_250 (by decide) (fun h => ?_) (fun h => ?_)
      · refine bv_iinc (v := (bdn d)) 275 rfl C d_M_isAbove_272 rfl (b_dec d) (by decide) ?_
        refine bv_goto 199 C d_M_isAbove_275 (by decide) ?_
        refine bv_wk [(0, .ref a), (9, .int ka), (10, .long sd), (12, .int (bdn d))] ⟨rfl, rfl, rfl, rfl, trivial⟩ ?_
        exact ih (by omega)
      · refine bv_aload_n 254 rfl C d_M_isAbove_253 rfl ?_
        refine bv_get 305 21 257 rfl C k_M (by omega) ha ((mup (by decide)).trans hm) (by decide) t3_128 rfl d_M_isAbove_254 ?_
        refine bv_iload 259 rfl C d_M_isAbove_257 rfl ?_
        refine bv_lald 322 d 260 rfl C (by omega) rfl (va_up_self _ _ _) rfl (by omega) (by decide) d_M_isAbove_259 ?_
        refine bv_lload 262 rfl C d_M_isAbove_260 rfl ?_
        refine bv_lcmp 263 rfl C d_M_isAbove_262 ?_
        refine bv_if_le 270 266 rfl C d_M_isAbove_263 (by decide) (fun h' => ?_) (fun h' => ?_)
        · refine bv_iconst (v := nI 0) 271 rfl C d_M_isAbove_270 (by decide) ?_
          exact hx _ _ (Or.inl rfl)
        · refine bv_iconst (v := nI 1) 267 rfl C d_M_isAbove_266 (by decide) ?_
          refine bv_goto 271 C d_M_isAbove_267 (by decide) ?_
          exact hx _ _ (Or.inr rfl)
    show bV p l e R s m args below meth c dd A 15 mc ms post thr 199 (bO [(0, .ref a), (9, .int ka), (10, .long sd), (12, .int (nI d))]) [] ad (va_up w 322 (aL dd 8 g)) N cells slots
    refine bv_iload 201 rfl C d_M_isAbove_199 rfl ?_
    refine bv_if_lt 278 204 rfl C d_M_isAbove_201 (by decide) (fun h => absurd h (nI_pos (by omega))) (fun h => ?_)
    refine bv_iload 206 rfl C d_M_isAbove_204 rfl ?_
    refine bv_iload 208 rfl C d_M_isAbove_206 rfl ?_
    refine bv_icmp_ne 220 211 rfl C d_M_isAbove_208 (by decide) (fun h => ?_) (fun h => ?_)
    · refine bv_iload 222 rfl C d_M_isAbove_220 rfl ?_
      refine bv_iload 224 rfl C d_M_isAbove_222 rfl ?_
      refine bv_iconst (v := nI 1) 225 rfl C d_M_isAbove_224 (by decide) ?_
      refine bv_iadd 226 rfl C d_M_isAbove_225 ?_
      refine bv_icmp_ne 237 229 rfl C d_M_isAbove_226 (by decide) (fun h' => ?_) (fun h' => ?_)
      · refine bv_lconst (v := 0) 238 rfl C d_M_isAbove_237 (by decide) ?_
        exact tl _
      · refine bv_lload 231 rfl C d_M_isAbove_229 rfl ?_
        refine bv_bipush (v := nI 20) 233 rfl C d_M_isAbove_231 (by decide) ?_
        refine bv_lshr 234 rfl C d_M_isAbove_233 rfl ?_
        refine bv_goto 238 C d_M_isAbove_234 (by decide) ?_
        exact tl _
    · refine bv_lload 213 rfl C d_M_isAbove_211 rfl ?_
      refine bv_ldc2 216 rfl C t3_106 d_M_isAbove_213 ?_
      refine bv_land 217 rfl C d_M_isAbove_216 ?_
      refine bv_goto 238 C d_M_isAbove_217 (by decide) ?_
      exact tl _
theorem ct_M_isAbove (hN : 323 ≤ N) (ha : ad 305 = a) (hm : w 305 = mO ad th ve wr cu dn) {g0 : Nat → Int64} (hl : w 322 = aL dd 8 g0) (hpw : pw ≤ 3) : bK l dd y_M_isAbove 0 0 0 0 [.ref a, .long x, .int pp, .int (nI pw)] ad w N (fun v ad' w' N' => ad = ad' ∧ N = N' ∧ (∃ g, w' = va_up w 322 (aL dd 8 g)) ∧ ∃ r : Int32, v = some (.int r)) bNo := by
  refine bK.start [(0, .ref a), (1, .long x), (3, .int pp), (4, .int (nI pw))] (by decide) t3_105 (Nat.le_of_ble_eq_true rfl) rfl (fun p e s m args below meth c A hnm C => ?_)
  refine bv_lload_n 1 rfl C d_M_isAbove_0 rfl ?_
  refine bv_ldc2 4 rfl C t3_106 d_M_isAbove_1 ?_
  refine bv_land 5 rfl C d_M_isAbove_4 ?_
  refine bv_lstore 7 rfl C d_M_isAbove_5 (by decide) ?_
  refine bv_lload_n 8 rfl C d_M_isAbove_7 rfl ?_
  refine bv_bipush (v := nI 20) 10 rfl C d_M_isAbove_8 (by decide) ?_
  refine bv_lshr 11 rfl C d_M_isAbove_10 rfl ?_
  refine bv_lstore 13 rfl C d_M_isAbove_11 (by decide) ?_
  refine bv_iconst (v := nI 0) 14 rfl C d_M_isAbove_13 (by decide) ?_
  refine bv_istore 16 rfl C d_M_isAbove_14 (by decide) ?_
  have hW : w = va_up w 322 (aL dd 8 g0) := by
    funext k
    by_cases hk : k = 322
    · rw [hk, va_up_self, hl]
    · rw [va_up_ne _ _ hk]
  refine bv_w (va_up w 322 (aL dd 8 g0)) (fun k _ => by rw [← hW]) ?_
  refine bv_wk [(0, .ref a), (1, .long x), (3, .int pp), (4, .int (nI pw)), (5, .long _), (7, .long _), (9, .int (nI 0))] ⟨rfl, rfl, rfl, rfl, rfl, rfl, rfl, trivial⟩ ?_
  refine lp_above1 C hN ha hm (fun g1 => ?_) 8 0 g0 rfl
  refine bv_iconst (v := nI 0) 47 rfl C d_M_isAbove_46 (by decide) ?_
  refine bv_istore 49 rfl C d_M_isAbove_47 (by decide) ?_
  refine bv_wk [(0, .ref a), (1, .long x), (3, .int pp), (4, .int (nI pw)), (5, .long _), (7, .long _), (9, .int (nI 0))] ⟨rfl, rfl, rfl, rfl, rfl, rfl, rfl, trivial⟩ ?_
  refine lp_above2 C hN ha hm hpw (fun g2 => ?_) pw 0 g1 (by omega)
  refine bv_bipush (v := nI 32) 174 rfl C d_M_isAbove_172 (by decide) ?_
  refine bv_iload 176 rfl C d_M_isAbove_174 rfl ?_
  refine bv_imul 177 rfl C d_M_isAbove_176 ?_
  refine bv_bipush (v := nI 20) 179 rfl C d_M_isAbove_177 (by decide) ?_
  refine bv_idiv 180 rfl C d_M_isAbove_179 (by decide) ?_
  refine bv_istore 182 rfl C d_M_isAbove_180 (by decide) ?_
  refine bv_iload_n 183 rfl C d_M_isAbove_182 rfl ?_
  refine bv_i2l 184 rfl C d_M_isAbove_183 rfl ?_
  refine bv_bipush (v := nI 32) 186 rfl C d_M_isAbove_184 (by decide) ?_
  refine bv_iload 188 rfl C d_M_isAbove_186 rfl ?_
  refine bv_imul 189 rfl C d_M_isAbove_188 ?_
  refine bv_bipush (v := nI 20) 191 rfl C d_M_isAbove_189 (by decide) ?_
  refine bv_irem 192 rfl C d_M_isAbove_191 (by decide) ?_
  refine bv_lshl 193 rfl C d_M_isAbove_192 rfl ?_
  refine bv_lstore 195 rfl C d_M_isAbove_193 (by decide) ?_
  refine bv_bipush (v := nI 7) 197 rfl C d_M_isAbove_195 (by decide) ?_
  refine bv_istore 199 rfl C d_M_isAbove_197 (by decide) ?_
  refine bv_wk [(0, .ref a), (9, .int _), (10, .long _), (12, .int (bdn 8))] ⟨rfl, rfl, rfl, rfl, trivial⟩ ?_
  refine lp_above5 C hN ha hm (fun r lo hr => ?_) (fun lo => ?_) 8 (Nat.le_refl _)
  · exact bv_zreturn C rfl hr d_M_isAbove_271 (Nat.le_refl _) (Nat.le_refl _) ⟨rfl, rfl, ⟨_, rfl⟩, _, rfl⟩
  · exact bv_zreturn C rfl (Or.inl rfl) d_M_isAbove_279 (Nat.le_refl _) (Nat.le_refl _) ⟨rfl, rfl, ⟨_, rfl⟩, _, rfl⟩
end bMa

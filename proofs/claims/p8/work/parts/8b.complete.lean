section bQ12
variable {l : Launch} {dd : bD} {ad : Nat → Nat} {w : Nat → va_E}
/-- the version v has c slots so far -/
def VS (dd : bD) (w : Nat → va_E) (v c : Nat) : Prop := ∃ fv, w 316 = aI dd 41 fv ∧ InLe fv 41 21 ∧ fv v = nI c
theorem j_M_complete {x : Int32} (hI : II dd ad w) : bK l dd y_M_complete 2 43 0 0 [.ref (ad 305), .int x] ad w 324 (bJ dd ad vI) (bNo) := by
  obtain ⟨th, V, wr, cu, dn, hV, hd, hm⟩ := hI.k305 (k := 305) (by decide) (by decide)
  refine bK.start [(0, .ref (ad 305)), (1, .int x)] (by decide) t3_238 (Nat.le_of_ble_eq_true rfl) rfl (fun p e s m args below meth c A hnm C => ?_)
  have outer : ∀ (j v : Nat), j < 5 → 1 ≤ v → v ≤ 40 → ∀ (d q c0 : Nat) (w : Nat → va_E), q + d = 7 → c0 ≤ 3 * q → II dd ad w → VS dd w v c0 → bV p l e { frames := 2, cells := 0, slots := 0, locals := 43 } s m args below meth c dd A 5 0 0 (bJ dd ad vI) (bNo) 108 (bO [(0, .ref (ad 305)), (1, .int (nI j)), (2, .int (nI v)), (3, .int (nI (7 * j + q)))]) [] ad w 324 0 0 := by
    intro j v hj hv1 hv2 d
    induction d with
    | zero =>
      intro q c0 w hq hc hI hVS
      obtain ⟨th, V, wr, cu, dn, hV, hd, hm⟩ := hI.k305 (k := 305) (by decide) (by decide)
      obtain ⟨fo, hfo⟩ := hI.k308 (k := 308) (by decide) (by decide)
      refine bv_iload_n 109 rfl C d_M_complete_108 rfl ?_
      refine bv_bipush (v := nI 7) 111 rfl C d_M_complete_109 (by decide) ?_
      refine bv_iload_n 112 rfl C d_M_complete_111 rfl ?_
      refine bv_iconst (v := nI 1) 113 rfl C d_M_complete_112 (by decide) ?_
      refine bv_iadd 114 rfl C d_M_complete_113 ?_
      refine bv_imul 115 rfl C d_M_complete_114 ?_
      refine bv_seti (nI (7*(j+1))) (by rw [nI_add, pk_mul]) ?_
      refine bv_icmp_ge 184 118 rfl C d_M_complete_115 (by decide) (fun h => ?_) (fun h => absurd (nI_le (show 7 * (j + 1) ≤ 7 * j + q by omega) (by omega)) h)
      refine bv_aload_n 185 rfl C d_M_complete_184 rfl ?_
      refine bv_get 305 3 188 rfl C k_M (by omega) rfl hm (by decide) t3_110 rfl d_M_complete_185 ?_
      refine bv_iload_n 189 rfl C d_M_complete_188 rfl ?_
      refine bv_iconst (v := nI 0) 190 rfl C d_M_complete_189 (by decide) ?_
      refine bv_zast 308 j 191 rfl C (by omega) rfl hfo rfl (by omega) (by decide) d_M_complete_190 ?_
      refine bv_iload_n 192 rfl C d_M_complete_191 rfl ?_
      exact bv_ireturn C rfl d_M_complete_192 (Nat.le_refl _) (Nat.le_refl _) ⟨rfl, rfl, hI.up ((sh_308 (by decide)).mpr ⟨_, rfl⟩), _, rfl⟩
    | succ d ih =>
      intro q c0 w hq hc hI hVS
      have inner : ∀ (d2 k c1 : Nat) (w : Nat → va_E), k + d2 = 3 → c1 ≤ 3 * q + k → II dd ad w → VS dd w v c1 → bV p l e { frames := 2, cells := 0, slots := 0, locals := 43 } s m args below meth c dd A 5 0 0 (bJ dd ad vI) (bNo) 121 (bO [(0, .ref (ad 305)), (1, .int (nI j)), (2, .int (nI v)), (3, .int (nI (7 * j + q))), (4, .int (nI k))]) [] ad w 324 0 0 := by
        intro d2
        induction d2 with
        | zero =>
          intro k c1 w hk hc1 hI hVS
          obtain ⟨th, V, wr, cu, dn, hV, hd, hm⟩ := hI.k305 (k := 305) (by decide) (by decide)
          obtain ⟨fp, hfp, hfp'⟩ := hI.k311 (k := 311) (by decide) (by decide)
          have next : bV p l e { frames := 2, cells := 0, slots := 0, locals := 43 } s m args below meth c dd A 5 0 0 (bJ dd ad vI) (bNo) 178 (bO [(0, .ref (ad 305)), (1, .int (nI j)), (2, .int (nI v)), (3, .int (nI (7 * j + q)))]) [] ad w 324 0 0 := by
            refine bv_iinc 181 rfl C d_M_complete_178 rfl (by first | exact b_inc _ | rfl) (by decide) ?_
            refine bv_goto 108 C d_M_complete_181 (by decide) ?_
            refine bv_wk [(0, .ref (ad 305)), (1, .int (nI j)), (2, .int (nI v)), (3, .int (nI (7 * j + (q + 1))))] ⟨rfl, rfl, rfl, rfl, trivial⟩ ?_
            exact ih (q + 1) c1 w (by omega) (by omega) hI hVS
          refine bv_iload 123 rfl C d_M_complete_121 rfl ?_
          refine bv_aload_n 124 rfl C d_M_complete_123 rfl ?_
          refine bv_get 305 6 127 rfl C k_M (by omega) rfl hm (by decide) t3_113 rfl d_M_complete_124 ?_
          refine bv_iload_n 128 rfl C d_M_complete_127 rfl ?_
          refine bv_iald 311 (7*j+q) 129 rfl C (by omega) rfl hfp rfl (by omega) (by decide) d_M_complete_128 ?_
          rcases hfp' (7 * j + q) (by omega) with hze | ⟨z, hz, hze⟩
          · refine bv_seti (-1) hze ?_
            refine bv_icmp_ge 178 132 rfl C d_M_complete_129 (by decide) (fun h => ?_) (fun h => absurd (show (-1 : Int32) ≤ nI k by rw [show k = 3 by omega]; decide) h)
            exact bv_wk [(0, .ref (ad 305)), (1, .int (nI j)), (2, .int (nI v)), (3, .int (nI (7 * j + q)))] ⟨rfl, rfl, rfl, rfl, trivial⟩ next
          · refine bv_seti (nI z) hze ?_
            refine bv_icmp_ge 178 132 rfl C d_M_complete_129 (by decide) (fun h => ?_) (fun h => absurd (nI_le (show z ≤ k by omega) (by omega)) h)
            exact bv_wk [(0, .ref (ad 305)), (1, .int (nI j)), (2, .int (nI v)), (3, .int (nI (7 * j + q)))] ⟨rfl, rfl, rfl, rfl, trivial⟩ next
        | succ d2 ih2 =>
          intro k c1 w hk hc1 hI hVS
          obtain ⟨th, V, wr, cu, dn, hV, hd, hm⟩ := hI.k305 (k := 305) (by decide) (by decide)
          obtain ⟨fp, hfp, hfp'⟩ := hI.k311 (k := 311) (by decide) (by decide)
          refine bv_iload 123 rfl C d_M_complete_121 rfl ?_
          refine bv_aload_n 124 rfl C d_M_complete_123 rfl ?_
          refine bv_get 305 6 127 rfl C k_M (by omega) rfl hm (by decide) t3_113 rfl d_M_complete_124 ?_
          refine bv_iload_n 128 rfl C d_M_complete_127 rfl ?_
          refine bv_iald 311 (7*j+q) 129 rfl C (by omega) rfl hfp rfl (by omega) (by decide) d_M_complete_128 ?_
          refine bv_icmp_ge 178 132 rfl C d_M_complete_129 (by decide) (fun x1 => ?_) (fun x1 => ?_)
          · refine bv_iinc 181 rfl C d_M_complete_178 rfl (by first | exact b_inc _ | rfl) (by decide) ?_
            refine bv_goto 108 C d_M_complete_181 (by decide) ?_
            refine bv_wk [(0, .ref (ad 305)), (1, .int (nI j)), (2, .int (nI v)), (3, .int (nI (7 * j + (q + 1))))] ⟨rfl, rfl, rfl, rfl, trivial⟩ ?_
            exact ih (q + 1) c1 w (by omega) (by omega) hI hVS
          · obtain ⟨fv, hfv, hfv', hfe⟩ := hVS
            obtain ⟨fs, hfs, hfs'⟩ := hI.k312 (k := 312) (by decide) (by decide)
            obtain ⟨fw, hfw, hfw'⟩ := hI.k317 (k := 317) (by decide) (by decide)
            obtain ⟨sl, hsl, hse⟩ := hfs' (3 * (7 * j + q) + k) (by omega)
            refine bv_aload_n 133 rfl C d_M_complete_132 rfl ?_
            refine bv_get 305 13 136 rfl C k_M (by omega) rfl hm (by decide) t3_120 rfl d_M_complete_133 ?_
            refine bv_bipush (v := nI 18) 138 rfl C d_M_complete_136 (by decide) ?_
            refine bv_iload_n 139 rfl C d_M_complete_138 rfl ?_
            refine bv_imul 140 rfl C d_M_complete_139 ?_
            refine bv_bipush (v := nI 18) 142 rfl C d_M_complete_140 (by decide) ?_
            refine bv_isub 143 rfl C d_M_complete_142 ?_
            refine bv_aload_n 144 rfl C d_M_complete_143 rfl ?_
            refine bv_get 305 12 147 rfl C k_M (by omega) rfl hm (by decide) t3_119 rfl d_M_complete_144 ?_
            refine bv_iload_n 148 rfl C d_M_complete_147 rfl ?_
            refine bv_iald 316 v 149 rfl C (by omega) rfl hfv rfl (by omega) (by decide) d_M_complete_148 ?_
            refine bv_seti (nI c1) hfe ?_
            refine bv_iadd 150 rfl C d_M_complete_149 ?_
            refine bv_aload_n 151 rfl C d_M_complete_150 rfl ?_
            refine bv_get 305 7 154 rfl C k_M (by omega) rfl hm (by decide) t3_114 rfl d_M_complete_151 ?_
            refine bv_iconst (v := nI 3) 155 rfl C d_M_complete_154 (by decide) ?_
            refine bv_iload_n 156 rfl C d_M_complete_155 rfl ?_
            refine bv_imul 157 rfl C d_M_complete_156 ?_
            refine bv_iload 159 rfl C d_M_complete_157 rfl ?_
            refine bv_iadd 160 rfl C d_M_complete_159 ?_
            refine bv_iald 312 (3*(7*j+q)+k) 161 rfl C (by omega) rfl hfs (by rw [pk_mul, nI_add]) (by omega) (by decide) d_M_complete_160 ?_
            refine bv_seti (nI sl) hse ?_
            refine bv_iast 317 (18*v-18+c1) 162 rfl C (by omega) rfl hfw (by rw [pk_mul, pk_sub (by omega), nI_add]) (by omega) (by decide) d_M_complete_161 ?_
            have hI1 : II dd ad (va_up w 317 (aI dd 738 (upd fw (18 * v - 18 + c1) (nI sl)))) := hI.up ((sh_317 (by decide)).mpr ⟨_, rfl, hfw'.up hsl rfl⟩)
            have hfv1 : (va_up w 317 (aI dd 738 (upd fw (18 * v - 18 + c1) (nI sl)))) 316 = aI dd 41 fv := (va_up_ne _ _ (by decide)).trans hfv
            generalize va_up w 317 (aI dd 738 (upd fw (18 * v - 18 + c1) (nI sl))) = w1 at hI1 hfv1 ⊢
            obtain ⟨th, V, wr, cu, dn, hV, hd, hm⟩ := hI1.k305 (k := 305) (by decide) (by decide)
            refine bv_aload_n 163 rfl C d_M_complete_162 rfl ?_
            refine bv_get 305 12 166 rfl C k_M (by omega) rfl hm (by decide) t3_119 rfl d_M_complete_163 ?_
            refine bv_iload_n 167 rfl C d_M_complete_166 rfl ?_
            refine bv_dup2_11 168 rfl C d_M_complete_167 rfl rfl ?_
            refine bv_iald 316 v 169 rfl C (by omega) rfl hfv1 rfl (by omega) (by decide) d_M_complete_168 ?_
            refine bv_seti (nI c1) hfe ?_
            refine bv_iconst (v := nI 1) 170 rfl C d_M_complete_169 (by decide) ?_
            refine bv_iadd 171 rfl C d_M_complete_170 ?_
            refine bv_seti (nI (c1+1)) (nI_add c1 1) ?_
            refine bv_iast 316 v 172 rfl C (by omega) rfl hfv1 rfl (by omega) (by decide) d_M_complete_171 ?_
            have hu := hfv'.up (j := v) (s := c1 + 1) (by omega) rfl
            refine bv_iinc 175 rfl C d_M_complete_172 rfl (by first | exact b_inc _ | rfl) (by decide) ?_
            refine bv_goto 121 C d_M_complete_175 (by decide) ?_
            refine bv_wk [(0, .ref (ad 305)), (1, .int (nI j)), (2, .int (nI v)), (3, .int (nI (7 * j + q))), (4, .int (nI (k + 1)))] ⟨rfl, rfl, rfl, rfl, rfl, trivial⟩ ?_
            exact ih2 (k + 1) (c1 + 1) _ (by omega) (by omega) (hI1.up ((sh_316 (by decide)).mpr ⟨_, rfl, hu⟩)) ⟨_, va_up_self _ _ _, hu, pk_us⟩
      refine bv_iload_n 109 rfl C d_M_complete_108 rfl ?_
      refine bv_bipush (v := nI 7) 111 rfl C d_M_complete_109 (by decide) ?_
      refine bv_iload_n 112 rfl C d_M_complete_111 rfl ?_
      refine bv_iconst (v := nI 1) 113 rfl C d_M_complete_112 (by decide) ?_
      refine bv_iadd 114 rfl C d_M_complete_113 ?_
      refine bv_imul 115 rfl C d_M_complete_114 ?_
      refine bv_seti (nI (7*(j+1))) (by rw [nI_add, pk_mul]) ?_
      refine bv_icmp_ge 184 118 rfl C d_M_complete_115 (by decide) (fun h => absurd h (nI_ge (show 7 * j + q < 7 * (j + 1) by omega) (by omega))) (fun h => ?_)
      refine bv_iconst (v := nI 0) 119 rfl C d_M_complete_118 (by decide) ?_
      refine bv_istore 121 rfl C d_M_complete_119 (by decide) ?_
      refine bv_wk [(0, .ref (ad 305)), (1, .int (nI j)), (2, .int (nI v)), (3, .int (nI (7 * j + q))), (4, .int (nI 0))] ⟨rfl, rfl, rfl, rfl, rfl, trivial⟩ ?_
      exact inner 3 0 c0 w (by omega) (by omega) hI hVS
  have fin : ∀ (w : Nat → va_E), II dd ad w → bV p l e { frames := 2, cells := 0, slots := 0, locals := 43 } s m args below meth c dd A 5 0 0 (bJ dd ad vI) (bNo) 48 (bO []) [] ad w 324 0 0 := by
    intro w hI
    refine bv_iconst (v := nI 0) 49 rfl C d_M_complete_48 (by decide) ?_
    exact bv_ireturn C rfl d_M_complete_49 (Nat.le_refl _) (Nat.le_refl _) ⟨rfl, rfl, hI, _, rfl⟩
  have says : ∀ (u : Int32), (((∃ i, i < 5 ∧ x = nI i) ∧ V < 40) ∨ ¬ u = 0) → bV p l e { frames := 2, cells := 0, slots := 0, locals := 43 } s m args below meth c dd A 5 0 0 (bJ dd ad vI) (bNo) 34 (bO [(0, .ref (ad 305)), (1, .int x)]) [.int u, .ref (ad 305)] ad w 324 0 0 := by
    intro u hx
    refine bv_call (rest := []) 37 rfl C d_M_complete_34 (ct_M_says (by decide) hm (x := u)) i_M_says t1_8 (fun H locs ls hP => bs_V (av := [.int u]) 305 C i_M_says t3_187 t3_189 s_38 (by omega) rfl hm rfl (by decide) rfl rfl d_M_complete_34 H locs ls hP) ⟨by first | decide | omega, by first | decide | omega⟩ (by decide) (by decide) (Nat.le_of_ble_eq_true rfl) (fun v ad1 w1 N1 hpo => ?_) (fun x Cn ad' w' N' hth => hth.elim)
    obtain ⟨rfl, rfl, rfl, hv⟩ := hpo
    have hI1 : II dd ad (va_up w 305 (mO ad u (nI V) wr cu dn)) := hI.m hV hd
    have hm1 : (va_up w 305 (mO ad u (nI V) wr cu dn)) 305 = mO ad u (nI V) wr cu dn := va_up_self _ _ _
    generalize va_up w 305 (mO ad u (nI V) wr cu dn) = w1 at hI1 hm1 ⊢
    rcases hv with ⟨hu, rfl⟩ | ⟨hu, rfl⟩
    · obtain ⟨⟨i, hi, rfl⟩, hV40⟩ := hx.resolve_right (fun h => h hu)
      refine bv_if_eq 48 40 rfl C d_M_complete_37 (by decide) (fun h => absurd h (show ¬ nI 1 = 0 by decide)) (fun h => ?_)
      refine bv_aload_n 41 rfl C d_M_complete_40 rfl ?_
      refine bv_iconst (v := nI 3) 42 rfl C d_M_complete_41 (by decide) ?_
      refine bv_call (rest := []) 45 rfl C d_M_complete_42 (j_M_writes hm1 hd (x := nI 3)) i_M_writes t1_8 (fun H locs ls hP => bs_V (av := [.int (nI 3)]) 305 C i_M_writes t3_191 t3_193 s_39 (by omega) rfl hm1 rfl (by decide) rfl rfl d_M_complete_42 H locs ls hP) ⟨by first | decide | omega, by first | decide | omega⟩ (by decide) (by decide) (Nat.le_of_ble_eq_true rfl) (fun v ad1 w2 N1 hpo => ?_) (fun x Cn ad' w' N' hth => hth.elim)
      obtain ⟨rfl, rfl, ⟨th', wr', cu', dn', hd', rfl⟩, hv⟩ := hpo
      have hI2 : II dd ad (va_up w1 305 (mO ad th' (nI V) wr' cu' dn')) := hI1.m hV hd'
      have hm2 : (va_up w1 305 (mO ad th' (nI V) wr' cu' dn')) 305 = mO ad th' (nI V) wr' cu' dn' := va_up_self _ _ _
      generalize va_up w1 305 (mO ad th' (nI V) wr' cu' dn') = w2 at hI2 hm2 ⊢
      rcases hv with rfl | rfl
      · refine bv_if_ne 50 48 rfl C d_M_complete_45 (by decide) (fun h => absurd (show nI 0 = 0 by decide) h) (fun h => ?_)
        exact bv_wk [] trivial (fin w2 hI2)
      · refine bv_if_ne 50 48 rfl C d_M_complete_45 (by decide) (fun h => ?_) (fun h => absurd h (show ¬ nI 1 = 0 by decide))
        refine bv_aload_n 51 rfl C d_M_complete_50 rfl ?_
        refine bv_dup 52 rfl C d_M_complete_51 rfl ?_
        refine bv_get 305 8 55 rfl C k_M (by omega) rfl hm2 (by decide) t3_115 rfl d_M_complete_52 ?_
        refine bv_iconst (v := nI 1) 56 rfl C d_M_complete_55 (by decide) ?_
        refine bv_iadd 57 rfl C d_M_complete_56 ?_
        refine bv_seti (nI (V+1)) (nI_add V 1) ?_
        refine bv_put 305 8 60 rfl C k_M (by omega) rfl hm2 (by decide) t3_115 rfl rfl rfl (Nat.le_of_ble_eq_true rfl) d_M_complete_57 ?_
        have hI3 : II dd ad (va_up w2 305 (mO ad th' (nI (V + 1)) wr' cu' dn')) := hI2.m hV40 hd'
        have hm3 : (va_up w2 305 (mO ad th' (nI (V + 1)) wr' cu' dn')) 305 = mO ad th' (nI (V + 1)) wr' cu' dn' := va_up_self _ _ _
        refine bv_aload_n 61 rfl C d_M_complete_60 rfl ?_
        refine bv_get 305 8 64 rfl C k_M (by omega) rfl hm3 (by decide) t3_115 rfl d_M_complete_61 ?_
        generalize hw3 : va_up w2 305 (mO ad th' (nI (V + 1)) wr' cu' dn') = w3 at hI3 hm3
        refine bv_w w3 (fun k _ => by rw [← hw3]; rfl) ?_
        obtain ⟨fl, hfl⟩ := hI3.k313 (k := 313) (by decide) (by decide)
        refine bv_istore_n 65 rfl C d_M_complete_64 (by decide) ?_
        refine bv_aload_n 66 rfl C d_M_complete_65 rfl ?_
        refine bv_get 305 9 69 rfl C k_M (by omega) rfl hm3 (by decide) t3_116 rfl d_M_complete_66 ?_
        refine bv_iload_n 70 rfl C d_M_complete_69 rfl ?_
        refine bv_iconst (v := nI 1) 71 rfl C d_M_complete_70 (by decide) ?_
        refine bv_zast 313 (V+1) 72 rfl C (by omega) rfl hfl rfl (by omega) (by decide) d_M_complete_71 ?_
        refine bv_any (hI3.up ((sh_313 (by decide)).mpr ⟨_, rfl⟩)) (fun w4 hI4 => ?_)
        obtain ⟨th, V0, wr, cu, dn, hV0, hd, hm⟩ := hI4.k305 (k := 305) (by decide) (by decide)
        obtain ⟨f9, hf9⟩ := hI4.k309 (k := 309) (by decide) (by decide)
        obtain ⟨f14, hf14⟩ := hI4.k314 (k := 314) (by decide) (by decide)
        refine bv_aload_n 73 rfl C d_M_complete_72 rfl ?_
        refine bv_get 305 10 76 rfl C k_M (by omega) rfl hm (by decide) t3_117 rfl d_M_complete_73 ?_
        refine bv_iload_n 77 rfl C d_M_complete_76 rfl ?_
        refine bv_aload_n 78 rfl C d_M_complete_77 rfl ?_
        refine bv_get 305 4 81 rfl C k_M (by omega) rfl hm (by decide) t3_111 rfl d_M_complete_78 ?_
        refine bv_iload_n 82 rfl C d_M_complete_81 rfl ?_
        refine bv_iald 309 i 83 rfl C (by omega) rfl hf9 rfl (by omega) (by decide) d_M_complete_82 ?_
        refine bv_iast 314 (V+1) 84 rfl C (by omega) rfl hf14 rfl (by omega) (by decide) d_M_complete_83 ?_
        refine bv_any (hI4.up ((sh_314 (by decide)).mpr ⟨_, rfl⟩)) (fun w5 hI5 => ?_)
        obtain ⟨th, V0, wr, cu, dn, hV0, hd, hm⟩ := hI5.k305 (k := 305) (by decide) (by decide)
        obtain ⟨f10, hf10⟩ := hI5.k310 (k := 310) (by decide) (by decide)
        obtain ⟨f15, hf15⟩ := hI5.k315 (k := 315) (by decide) (by decide)
        refine bv_aload_n 85 rfl C d_M_complete_84 rfl ?_
        refine bv_get 305 11 88 rfl C k_M (by omega) rfl hm (by decide) t3_118 rfl d_M_complete_85 ?_
        refine bv_iload_n 89 rfl C d_M_complete_88 rfl ?_
        refine bv_aload_n 90 rfl C d_M_complete_89 rfl ?_
        refine bv_get 305 5 93 rfl C k_M (by omega) rfl hm (by decide) t3_112 rfl d_M_complete_90 ?_
        refine bv_iload_n 94 rfl C d_M_complete_93 rfl ?_
        refine bv_iald 310 i 95 rfl C (by omega) rfl hf10 rfl (by omega) (by decide) d_M_complete_94 ?_
        refine bv_iast 315 (V+1) 96 rfl C (by omega) rfl hf15 rfl (by omega) (by decide) d_M_complete_95 ?_
        refine bv_any (hI5.up ((sh_315 (by decide)).mpr ⟨_, rfl⟩)) (fun w6 hI6 => ?_)
        obtain ⟨th, V0, wr, cu, dn, hV0, hd, hm⟩ := hI6.k305 (k := 305) (by decide) (by decide)
        obtain ⟨fv, hfv, hfv'⟩ := hI6.k316 (k := 316) (by decide) (by decide)
        refine bv_aload_n 97 rfl C d_M_complete_96 rfl ?_
        refine bv_get 305 12 100 rfl C k_M (by omega) rfl hm (by decide) t3_119 rfl d_M_complete_97 ?_
        refine bv_iload_n 101 rfl C d_M_complete_100 rfl ?_
        refine bv_iconst (v := nI 0) 102 rfl C d_M_complete_101 (by decide) ?_
        refine bv_iast 316 (V+1) 103 rfl C (by omega) rfl hfv rfl (by omega) (by decide) d_M_complete_102 ?_
        have hu := hfv'.up (j := V + 1) (s := 0) (by omega) rfl
        refine bv_bipush (v := nI 7) 105 rfl C d_M_complete_103 (by decide) ?_
        refine bv_iload_n 106 rfl C d_M_complete_105 rfl ?_
        refine bv_imul 107 rfl C d_M_complete_106 ?_
        refine bv_seti (nI (7*i+0)) (pk_mul 7 i) ?_
        refine bv_istore_n 108 rfl C d_M_complete_107 (by decide) ?_
        refine bv_wk [(0, .ref (ad 305)), (1, .int (nI i)), (2, .int (nI (V + 1))), (3, .int (nI (7 * i + 0)))] ⟨rfl, rfl, rfl, rfl, trivial⟩ ?_
        exact outer i (V + 1) hi (by omega) (by omega) 7 0 0 _ (by omega) (by omega) (hI6.up ((sh_316 (by decide)).mpr ⟨_, rfl, hu⟩)) ⟨_, va_up_self _ _ _, hu, pk_us⟩
    · refine bv_if_eq 48 40 rfl C d_M_complete_37 (by decide) (fun h => ?_) (fun h => absurd (show nI 0 = 0 by decide) h)
      exact bv_wk [] trivial (fin w1 hI1)
  refine bv_aload_n 1 rfl C d_M_complete_0 rfl ?_
  refine bv_aload_n 2 rfl C d_M_complete_1 rfl ?_
  refine bv_get 305 16 5 rfl C k_M (by omega) rfl hm (by decide) t3_123 rfl d_M_complete_2 ?_
  refine bv_if_ne 17 8 rfl C d_M_complete_5 (by decide) (fun x1 => ?_) (fun x1 => ?_)
  · refine bv_iconst (v := nI 1) 18 rfl C d_M_complete_17 (by decide) ?_
    refine bv_goto 34 C d_M_complete_18 (by decide) ?_
    exact says _ (Or.inr (by decide))
  · refine bv_aload_n 9 rfl C d_M_complete_8 rfl ?_
    refine bv_get 305 8 12 rfl C k_M (by omega) rfl hm (by decide) t3_115 rfl d_M_complete_9 ?_
    refine bv_bipush (v := nI 40) 14 rfl C d_M_complete_12 (by decide) ?_
    refine bv_icmp_ne 21 17 rfl C d_M_complete_14 (by decide) (fun x2 => ?_) (fun x2 => ?_)
    · have hV40 : V < 40 := Nat.lt_of_le_of_ne hV (fun q => x2 (by rw [q]))
      refine bv_aload_n 22 rfl C d_M_complete_21 rfl ?_
      refine bv_iload_n 23 rfl C d_M_complete_22 rfl ?_
      refine bv_call (rest := [.ref (ad 305)]) 26 rfl C d_M_complete_23 (j_M_isOpen hI (x := x)) i_M_isOpen t1_8 (fun H locs ls hP => bs_V (av := [.int x]) 305 C i_M_isOpen t3_199 t3_201 s_40 (by omega) rfl hm rfl (by decide) rfl rfl d_M_complete_23 H locs ls hP) ⟨by first | decide | omega, by first | decide | omega⟩ (by decide) (by decide) (Nat.le_of_ble_eq_true rfl) (fun v ad1 w1 N1 hpo => ?_) (fun x Cn ad' w' N' hth => hth.elim)
      obtain ⟨rfl, rfl, rfl, hv⟩ := hpo
      rcases hv with rfl | ⟨i, hi, rfl, rfl⟩
      · refine bv_if_ne 33 29 rfl C d_M_complete_26 (by decide) (fun h => absurd (show nI 0 = 0 by decide) h) (fun h => ?_)
        refine bv_iconst (v := nI 2) 30 rfl C d_M_complete_29 (by decide) ?_
        refine bv_goto 34 C d_M_complete_30 (by decide) ?_
        exact says _ (Or.inr (by decide))
      · refine bv_if_ne 33 29 rfl C d_M_complete_26 (by decide) (fun h => ?_) (fun h => absurd h (show ¬ nI 1 = 0 by decide))
        refine bv_iconst (v := nI 0) 34 rfl C d_M_complete_33 (by decide) ?_
        exact says _ (Or.inl ⟨⟨i, hi, rfl⟩, hV40⟩)
    · refine bv_iconst (v := nI 1) 18 rfl C d_M_complete_17 (by decide) ?_
      refine bv_goto 34 C d_M_complete_18 (by decide) ?_
      exact says _ (Or.inr (by decide))
end bQ12

section bQ14
variable {l : Launch} {dd : bD} {ad : Nat → Nat} {w : Nat → va_E}
/-- the store's sizes and bytes and the row of the part that comes -/
def PI (dd : bD) (ad : Nat → Nat) (w : Nat → va_E) (fz fb fr : Nat → Int32) : Prop := II dd ad w ∧ w 306 = aI dd 48 fz ∧ InLe fz 48 8 ∧ w 307 = aI dd 384 fb ∧ w 321 = aI dd 24 fr
theorem PI.m {fz fb fr : Nat → Int32} {th : Int32} {V : Nat} {wr cu dn : Int32} (h : PI dd ad w fz fb fr) (hV : V ≤ 40) (hd : dn = 0 ∨ dn = 1) : PI dd ad (va_up w 305 (mO ad th (nI V) wr cu dn)) fz fb fr :=
  ⟨h.1.m hV hd, (va_up_ne _ _ (by decide)).trans h.2.1, h.2.2.1, (va_up_ne _ _ (by decide)).trans h.2.2.2.1, (va_up_ne _ _ (by decide)).trans h.2.2.2.2⟩
/-- the chunk number i of n bytes is in the slot s -/
abbrev Tc (fz fb fr : Nat → Int32) (n i s : Nat) : Prop := Th fz fb fr (8 * i) (cs n (8 * i)) s
/-- a chunk laid into a free slot: what was there stays -/
theorem Tc.keep {fz fb fb' fr : Nat → Int32} {n i s s1 : Nat} {x : Int32} (hn : 8 * i < n) (h0 : fz s = 0) (hb : ∀ t, (t < 8 * s ∨ 8 * s + 8 ≤ t) → fb' t = fb t) (h : Tc fz fb fr n i s1) : Tc (upd fz s x) fb' fr n i s1 := by
  have hp := cs_pos hn
  have h8 := cs_le n (8 * i)
  have hne : s1 ≠ s := by
    rintro rfl
    have h1 := h.1
    rw [h0] at h1
    exact nI_ne0 (n := cs n (8 * i)) (by omega) (by omega) h1.symm
  exact ⟨by rw [pk_un hne]; exact h.1, fun k hk => by rw [hb _ (by omega)]; exact h.2 k hk⟩
theorem Fre.of {fz0 fb0 fz fb fr : Nat → Int32} {n i : Nat} (hn : 8 * i < n) (ha : ∀ s, s < 48 → Tc fz0 fb0 fr n i s → Tc fz fb fr n i s) (hb : ∀ j, j < i → ∃ s, s < 48 ∧ Tc fz fb fr n j s) (hno : ∀ s, s < 48 → ¬ Tc fz fb fr n i s) : Fre fz0 fb0 fr n i := by
  refine ⟨fun s hs h => hno s hs (ha s hs h), fun b hbi => ?_⟩
  by_cases h8 : cs n (8 * i) < 8
  · exact Or.inl h8
  · refine Or.inr (fun hA => ?_)
    obtain ⟨s, hs, ht⟩ := hb b hbi
    have e1 := cs_8 (n := n) hbi hn
    have e2 : cs n (8 * i) = 8 := by have := cs_le n (8 * i); omega
    have h1 := ht.1
    have h2 := ht.2
    rw [e1] at h1 h2
    refine hno s hs ⟨by rw [e2]; exact h1, fun k hk => ?_⟩
    rw [e2] at hk
    rw [h2 k hk]
    exact (hA k hk).symm
theorem j_M_part {x y z : Int32} {a b c0 : Int64} (hI : II dd ad w) : bK l dd y_M_part 3 73 0 0 [.ref (ad 305), .int x, .int y, .int z, .long a, .long b, .long c0] ad w 324 (bJ dd ad vI) (bNo) := by
  obtain ⟨th, V, wr, cu, dn, hV, hd, hm⟩ := hI.k305 (k := 305) (by decide) (by decide)
  refine bK.start [(0, .ref (ad 305)), (1, .int x), (2, .int y), (3, .int z), (4, .long a), (6, .long b), (8, .long c0)] (by decide) t3_198 (Nat.le_of_ble_eq_true rfl) rfl (fun p e s m args below meth c A hnm C => ?_)
  have body : ∀ (j q n : Nat) (w : Nat → va_E), j < 5 → 1 ≤ q → q ≤ 6 → n ≤ 24 → II dd ad w → bV p l e { frames := 3, cells := 0, slots := 0, locals := 73 } s m args below meth c dd A 15 0 0 (bJ dd ad vI) (bNo) 53 (bO [(0, .ref (ad 305)), (1, .int (nI j)), (2, .int (nI q)), (3, .int (nI n)), (4, .long a), (6, .long b), (8, .long c0)]) [] ad w 324 0 0 := by
    intro j q n w hj hq1 hq2 hn hI
    have tail : ∀ (fz fb fr : Nat → Int32) (r : Int32) (w : Nat → va_E), PI dd ad w fz fb fr → (∀ i, i < (n + 7) / 8 → ∃ s, s < 48 ∧ Tc fz fb fr n i s) → bV p l e { frames := 3, cells := 0, slots := 0, locals := 73 } s m args below meth c dd A 15 0 0 (bJ dd ad vI) (bNo) 196 (bO [(0, .ref (ad 305)), (1, .int (nI j)), (2, .int (nI q)), (3, .int (nI n)), (10, .int r)]) [] ad w 324 0 0 := by
      intro fz fb fr r w hP hT
      have last : ∀ (d i : Nat) (w : Nat → va_E), i + d = (n + 7) / 8 → PI dd ad w fz fb fr → bV p l e { frames := 3, cells := 0, slots := 0, locals := 73 } s m args below meth c dd A 15 0 0 (bJ dd ad vI) (bNo) 231 (bO [(0, .ref (ad 305)), (3, .int (nI n)), (10, .int r), (11, .int (nI (7 * j + q))), (12, .int (nI (8 * i)))]) [] ad w 324 0 0 := by
        intro d
        induction d with
        | zero =>
          intro i w hi hP
          refine bv_iload 233 rfl C d_M_part_231 rfl ?_
          refine bv_iload_n 234 rfl C d_M_part_233 rfl ?_
          refine bv_icmp_ge 270 237 rfl C d_M_part_234 (by decide) (fun h => ?_) (fun h => absurd (nI_le (show n ≤ 8 * i by omega) (by omega)) h)
          refine bv_iload 272 rfl C d_M_part_270 rfl ?_
          exact bv_ireturn C rfl d_M_part_272 (Nat.le_refl _) (Nat.le_refl _) ⟨rfl, rfl, hP.1, _, rfl⟩
        | succ d ih =>
          intro i w hi hP
          obtain ⟨hI, hz, hz', hb, hr⟩ := hP
          have hc8 := cs_le n (8 * i)
          have hc9 : 8 * i + cs n (8 * i) ≤ n := by have := @cs_le2 n (8 * i); rw [Nat.max_eq_left (by omega)] at this; exact this
          obtain ⟨th, V, wr, cu, dn, hV, hd, hm⟩ := hI.k305 (k := 305) (by decide) (by decide)
          obtain ⟨fs, hfs, hfs'⟩ := hI.k312 (k := 312) (by decide) (by decide)
          refine bv_iload 233 rfl C d_M_part_231 rfl ?_
          refine bv_iload_n 234 rfl C d_M_part_233 rfl ?_
          refine bv_icmp_ge 270 237 rfl C d_M_part_234 (by decide) (fun h => absurd h (nI_ge (show 8 * i < n by omega) (by omega))) (fun h => ?_)
          refine bv_aload_n 238 rfl C d_M_part_237 rfl ?_
          refine bv_get 305 7 241 rfl C k_M (by omega) rfl hm (by decide) t3_114 rfl d_M_part_238 ?_
          refine bv_iconst (v := nI 3) 242 rfl C d_M_part_241 (by decide) ?_
          refine bv_iload 244 rfl C d_M_part_242 rfl ?_
          refine bv_imul 245 rfl C d_M_part_244 ?_
          refine bv_iload 247 rfl C d_M_part_245 rfl ?_
          refine bv_bipush (v := nI 8) 249 rfl C d_M_part_247 (by decide) ?_
          refine bv_idivN (a := 8 * i) (d := 8) 250 rfl C rfl rfl (by omega) (by decide) (by decide) d_M_part_249 ?_
          refine bv_iadd 251 rfl C d_M_part_250 ?_
          refine bv_seti (nI (3*(7*j+q)+i)) (by rw [pk_mul, nI_add, show 8 * i / 8 = i by omega]) ?_
          refine bv_aload_n 252 rfl C d_M_part_251 rfl ?_
          refine bv_iload 254 rfl C d_M_part_252 rfl ?_
          refine bv_iload_n 255 rfl C d_M_part_254 rfl ?_
          refine bv_iload 257 rfl C d_M_part_255 rfl ?_
          refine bv_call (rest := [.int (nI (8*i)), .ref (ad 305), .int (nI (3*(7*j+q)+i)), .ref (ad 312)]) 260 rfl C d_M_part_257 (j_M_chunkSize hn (show 8 * i ≤ n by omega)) i_M_chunkSize t1_8 (fun H locs ls _ => bs_S (av := [.int (nI n), .int (nI (8*i))]) C i_M_chunkSize t3_212 t3_213 t1_8 (by decide) rfl rfl d_M_part_257 H locs ls) ⟨by first | decide | omega, by first | decide | omega⟩ (by decide) (by decide) (Nat.le_of_ble_eq_true rfl) (fun v ad1 w1 N1 hpo => ?_) (fun x Cn ad' w' N' hth => hth.elim)
          obtain ⟨rfl, rfl, rfl, rfl⟩ := hpo
          refine bv_call (rest := [.int (nI (3*(7*j+q)+i)), .ref (ad 312)]) 263 rfl C d_M_part_260 (j_M_find hI hz hb hr hc8 (show 8 * i + cs n (8 * i) ≤ 24 by omega)) i_M_find t1_8 (fun H locs ls hP => bs_V (av := [.int (nI (8*i)), .int (nI (cs n (8*i)))]) 305 C i_M_find t3_215 t3_217 s_43 (by omega) rfl hm rfl (by decide) rfl rfl d_M_part_260 H locs ls hP) ⟨by first | decide | omega, by first | decide | omega⟩ (by decide) (by decide) (Nat.le_of_ble_eq_true rfl) (fun v ad1 w1 N1 hpo => ?_) (fun x Cn ad' w' N' hth => hth.elim)
          obtain ⟨rfl, rfl, rfl, hv⟩ := hpo
          obtain ⟨sl, hsl, rfl⟩ : ∃ sl, sl < 48 ∧ v = some (.int (nI sl)) := by
            rcases hv with ⟨hno, -⟩ | ⟨s', hs', -, rfl⟩
            · obtain ⟨s', hs', ht⟩ := hT i (by omega)
              exact absurd ht (hno s' hs')
            · exact ⟨s', hs', rfl⟩
          refine bv_iast 312 (3*(7*j+q)+i) 264 rfl C (by omega) rfl hfs rfl (by omega) (by decide) d_M_part_263 ?_
          have hP1 : PI dd ad (va_up w 312 (aI dd 105 (upd fs (3 * (7 * j + q) + i) (nI sl)))) fz fb fr := ⟨hI.up ((sh_312 (by decide)).mpr ⟨_, rfl, hfs'.up hsl rfl⟩), (va_up_ne _ _ (by decide)).trans hz, hz', (va_up_ne _ _ (by decide)).trans hb, (va_up_ne _ _ (by decide)).trans hr⟩
          refine bv_iinc (v := (nI (8*(i+1)))) 267 rfl C d_M_part_264 rfl (b_inc8 i) (by decide) ?_
          refine bv_goto 231 C d_M_part_267 (by decide) ?_
          refine bv_wk [(0, .ref (ad 305)), (3, .int (nI n)), (10, .int r), (11, .int (nI (7 * j + q))), (12, .int (nI (8 * (i + 1))))] ⟨rfl, rfl, rfl, rfl, rfl, trivial⟩ ?_
          exact ih (i + 1) _ (by omega) hP1
      obtain ⟨th, V, wr, cu, dn, hV, hd, hm⟩ := hP.1.k305 (k := 305) (by decide) (by decide)
      refine bv_aload_n 197 rfl C d_M_part_196 rfl ?_
      refine bv_iconst (v := nI 4) 198 rfl C d_M_part_197 (by decide) ?_
      refine bv_call (rest := []) 201 rfl C d_M_part_198 (j_M_writes hm hd (x := nI 4)) i_M_writes t1_8 (fun H locs ls hP => bs_V (av := [.int (nI 4)]) 305 C i_M_writes t3_191 t3_193 s_39 (by omega) rfl hm rfl (by decide) rfl rfl d_M_part_198 H locs ls hP) ⟨by first | decide | omega, by first | decide | omega⟩ (by decide) (by decide) (Nat.le_of_ble_eq_true rfl) (fun v ad1 w2 N1 hpo => ?_) (fun x Cn ad' w' N' hth => hth.elim)
      obtain ⟨rfl, rfl, ⟨th', wr', cu', dn', hd', rfl⟩, hv⟩ := hpo
      have hP2 : PI dd ad (va_up w 305 (mO ad th' (nI V) wr' cu' dn')) fz fb fr := hP.m hV hd'
      generalize va_up w 305 (mO ad th' (nI V) wr' cu' dn') = w2 at hP2 ⊢
      rcases hv with rfl | rfl
      · refine bv_if_ne 206 204 rfl C d_M_part_201 (by decide) (fun h => absurd (show nI 0 = 0 by decide) h) (fun h => ?_)
        refine bv_iconst (v := nI 0) 205 rfl C d_M_part_204 (by decide) ?_
        exact bv_ireturn C rfl d_M_part_205 (Nat.le_refl _) (Nat.le_refl _) ⟨rfl, rfl, hP2.1, _, rfl⟩
      · refine bv_if_ne 206 204 rfl C d_M_part_201 (by decide) (fun h => ?_) (fun h => absurd h (show ¬ nI 1 = 0 by decide))
        obtain ⟨hI, hz, hz', hb, hr⟩ := hP2
        obtain ⟨th, V, wr, cu, dn, hV, hd, hm⟩ := hI.k305 (k := 305) (by decide) (by decide)
        obtain ⟨fp, hfp, hfp'⟩ := hI.k311 (k := 311) (by decide) (by decide)
        refine bv_bipush (v := nI 7) 208 rfl C d_M_part_206 (by decide) ?_
        refine bv_iload_n 209 rfl C d_M_part_208 rfl ?_
        refine bv_imul 210 rfl C d_M_part_209 ?_
        refine bv_iload_n 211 rfl C d_M_part_210 rfl ?_
        refine bv_iadd 212 rfl C d_M_part_211 ?_
        refine bv_seti (nI (7*j+q)) (by rw [pk_mul, nI_add]) ?_
        refine bv_istore 214 rfl C d_M_part_212 (by decide) ?_
        refine bv_aload_n 215 rfl C d_M_part_214 rfl ?_
        refine bv_get 305 6 218 rfl C k_M (by omega) rfl hm (by decide) t3_113 rfl d_M_part_215 ?_
        refine bv_iload 220 rfl C d_M_part_218 rfl ?_
        refine bv_iload_n 221 rfl C d_M_part_220 rfl ?_
        refine bv_bipush (v := nI 7) 223 rfl C d_M_part_221 (by decide) ?_
        refine bv_iadd 224 rfl C d_M_part_223 ?_
        refine bv_seti (nI (n+7)) (nI_add n 7) ?_
        refine bv_bipush (v := nI 8) 226 rfl C d_M_part_224 (by decide) ?_
        refine bv_idivN (a := n + 7) (d := 8) 227 rfl C rfl rfl (by omega) (by decide) (by decide) d_M_part_226 ?_
        refine bv_iast 311 (7*j+q) 228 rfl C (by omega) rfl hfp rfl (by omega) (by decide) d_M_part_227 ?_
        have hP3 : PI dd ad (va_up w2 311 (aI dd 35 (upd fp (7 * j + q) (nI ((n + 7) / 8))))) fz fb fr := ⟨hI.up ((sh_311 (by decide)).mpr ⟨_, rfl, hfp'.up (Or.inr ⟨(n + 7) / 8, by omega, rfl⟩)⟩), (va_up_ne _ _ (by decide)).trans hz, hz', (va_up_ne _ _ (by decide)).trans hb, (va_up_ne _ _ (by decide)).trans hr⟩
        refine bv_iconst (v := nI 0) 229 rfl C d_M_part_228 (by decide) ?_
        refine bv_istore 231 rfl C d_M_part_229 (by decide) ?_
        refine bv_wk [(0, .ref (ad 305)), (3, .int (nI n)), (10, .int r), (11, .int (nI (7 * j + q))), (12, .int (nI (8 * 0)))] ⟨rfl, rfl, rfl, rfl, rfl, trivial⟩ ?_
        exact last ((n + 7) / 8) 0 _ (by omega) hP3
    have loop : ∀ (fz0 fb0 fr : Nat → Int32) (g : Nat → Nat), (∀ i, i < (n + 7) / 8 → Fre fz0 fb0 fr n i → g i = 1) → ∀ (d i : Nat) (r : Int32) (w : Nat → va_E) (fz fb : Nat → Int32), i + d = (n + 7) / 8 → PI dd ad w fz fb fr → (∀ jj, 8 * jj < n → ∀ s, s < 48 → Tc fz0 fb0 fr n jj s → Tc fz fb fr n jj s) → (∀ jj, jj < i → ∃ s, s < 48 ∧ Tc fz fb fr n jj s) → sg g ((n + 7) / 8) ≤ cz fz 48 + sg g i →
        bV p l e { frames := 3, cells := 0, slots := 0, locals := 73 } s m args below meth c dd A 15 0 0 (bJ dd ad vI) (bNo) 95 (bO [(0, .ref (ad 305)), (1, .int (nI j)), (2, .int (nI q)), (3, .int (nI n)), (10, .int r), (11, .int (nI (8 * i)))]) [] ad w 324 0 0 := by
      intro fz0 fb0 fr g hg d
      induction d with
      | zero =>
        intro i r w fz fb hi hP hA hB hC
        refine bv_iload 97 rfl C d_M_part_95 rfl ?_
        refine bv_iload_n 98 rfl C d_M_part_97 rfl ?_
        refine bv_icmp_ge 196 101 rfl C d_M_part_98 (by decide) (fun h => ?_) (fun h => absurd (nI_le (show n ≤ 8 * i by omega) (by omega)) h)
        refine bv_wk [(0, .ref (ad 305)), (1, .int (nI j)), (2, .int (nI q)), (3, .int (nI n)), (10, .int r)] ⟨rfl, rfl, rfl, rfl, rfl, trivial⟩ ?_
        exact tail fz fb fr r w hP (fun jj hjj => hB jj (by omega))
      | succ d ih =>
        intro i r w fz fb hi hP hA hB hC
        have hin : 8 * i < n := by omega
        have hc8 := cs_le n (8 * i)
        have hcp := cs_pos hin
        have hc9 : 8 * i + cs n (8 * i) ≤ n := by have := @cs_le2 n (8 * i); rw [Nat.max_eq_left (by omega)] at this; exact this
        have hP0 := hP
        obtain ⟨hI, hz, hz', hb, hr⟩ := hP
        obtain ⟨th, V, wr, cu, dn, hV, hd, hm⟩ := hI.k305 (k := 305) (by decide) (by decide)
        have mono : ∀ jj, sg g jj ≤ sg g (jj + 1) := fun jj => by show _ ≤ sg g jj + g jj; omega
        have next : ∀ (r : Int32) (w : Nat → va_E) (fz fb : Nat → Int32), PI dd ad w fz fb fr → (∀ jj, 8 * jj < n → ∀ s, s < 48 → Tc fz0 fb0 fr n jj s → Tc fz fb fr n jj s) → (∀ jj, jj < i + 1 → ∃ s, s < 48 ∧ Tc fz fb fr n jj s) → sg g ((n + 7) / 8) ≤ cz fz 48 + sg g (i + 1) → bV p l e { frames := 3, cells := 0, slots := 0, locals := 73 } s m args below meth c dd A 15 0 0 (bJ dd ad vI) (bNo) 190 (bO [(0, .ref (ad 305)), (1, .int (nI j)), (2, .int (nI q)), (3, .int (nI n)), (10, .int r), (11, .int (nI (8 * i)))]) [] ad w 324 0 0 := by
          intro r w fz fb h1 h2 h3 h4
          refine bv_iinc (v := (nI (8*(i+1)))) 193 rfl C d_M_part_190 rfl (b_inc8 i) (by decide) ?_
          refine bv_goto 95 C d_M_part_193 (by decide) ?_
          refine bv_wk [(0, .ref (ad 305)), (1, .int (nI j)), (2, .int (nI q)), (3, .int (nI n)), (10, .int r), (11, .int (nI (8 * (i + 1))))] ⟨rfl, rfl, rfl, rfl, rfl, rfl, trivial⟩ ?_
          exact ih (i + 1) r w fz fb (by omega) h1 h2 h3 h4
        refine bv_iload 97 rfl C d_M_part_95 rfl ?_
        refine bv_iload_n 98 rfl C d_M_part_97 rfl ?_
        refine bv_icmp_ge 196 101 rfl C d_M_part_98 (by decide) (fun h => absurd h (nI_ge (show 8 * i < n by omega) (by omega))) (fun h => ?_)
        refine bv_iload_n 102 rfl C d_M_part_101 rfl ?_
        refine bv_iload 104 rfl C d_M_part_102 rfl ?_
        refine bv_call (rest := []) 107 rfl C d_M_part_104 (j_M_chunkSize hn (show 8 * i ≤ n by omega)) i_M_chunkSize t1_8 (fun H locs ls _ => bs_S (av := [.int (nI n), .int (nI (8*i))]) C i_M_chunkSize t3_212 t3_213 t1_8 (by decide) rfl rfl d_M_part_104 H locs ls) ⟨by first | decide | omega, by first | decide | omega⟩ (by decide) (by decide) (Nat.le_of_ble_eq_true rfl) (fun v ad1 w1 N1 hpo => ?_) (fun x Cn ad' w' N' hth => hth.elim)
        obtain ⟨rfl, rfl, rfl, rfl⟩ := hpo
        refine bv_istore 109 rfl C d_M_part_107 (by decide) ?_
        refine bv_aload_n 110 rfl C d_M_part_109 rfl ?_
        refine bv_iload 112 rfl C d_M_part_110 rfl ?_
        refine bv_iload 114 rfl C d_M_part_112 rfl ?_
        refine bv_call (rest := []) 117 rfl C d_M_part_114 (j_M_find hI hz hb hr hc8 (show 8 * i + cs n (8 * i) ≤ 24 by omega)) i_M_find t1_8 (fun H locs ls hP => bs_V (av := [.int (nI (8*i)), .int (nI (cs n (8*i)))]) 305 C i_M_find t3_215 t3_217 s_43 (by omega) rfl hm rfl (by decide) rfl rfl d_M_part_114 H locs ls hP) ⟨by first | decide | omega, by first | decide | omega⟩ (by decide) (by decide) (Nat.le_of_ble_eq_true rfl) (fun v ad1 w1 N1 hpo => ?_) (fun x Cn ad' w' N' hth => hth.elim)
        obtain ⟨rfl, rfl, rfl, hv⟩ := hpo
        rcases hv with ⟨hno, rfl⟩ | ⟨s', hs', ht, rfl⟩
        · have hgi : g i = 1 := hg i (by omega) (Fre.of hin (hA i hin) hB hno)
          have hC2 : sg g (i + 1) = sg g i + 1 := by show sg g i + g i = _; rw [hgi]
          have hmono : ∀ t, sg g (i + 1) ≤ sg g (i + 1 + t) := by
            intro t
            induction t with
            | zero => exact Nat.le_refl _
            | succ t iht => exact Nat.le_trans iht (mono _)
          have hcz : 1 ≤ cz fz 48 := by
            have := hmono ((n + 7) / 8 - (i + 1))
            rw [show i + 1 + ((n + 7) / 8 - (i + 1)) = (n + 7) / 8 by omega] at this
            omega
          refine bv_if_lt 123 120 rfl C d_M_part_117 (by decide) (fun h => ?_) (fun h => absurd (show (-1 : Int32) < 0 by decide) h)
          refine bv_aload_n 124 rfl C d_M_part_123 rfl ?_
          refine bv_iconst (v := nI 4) 125 rfl C d_M_part_124 (by decide) ?_
          refine bv_call (rest := []) 128 rfl C d_M_part_125 (j_M_writes hm hd (x := nI 4)) i_M_writes t1_8 (fun H locs ls hP => bs_V (av := [.int (nI 4)]) 305 C i_M_writes t3_191 t3_193 s_39 (by omega) rfl hm rfl (by decide) rfl rfl d_M_part_125 H locs ls hP) ⟨by first | decide | omega, by first | decide | omega⟩ (by decide) (by decide) (Nat.le_of_ble_eq_true rfl) (fun v ad1 w2 N1 hpo => ?_) (fun x Cn ad' w' N' hth => hth.elim)
          obtain ⟨rfl, rfl, ⟨th', wr', cu', dn', hd', rfl⟩, hv⟩ := hpo
          have hP2 : PI dd ad (va_up w 305 (mO ad th' (nI V) wr' cu' dn')) fz fb fr := hP0.m hV hd'
          generalize va_up w 305 (mO ad th' (nI V) wr' cu' dn') = w2 at hP2 ⊢
          rcases hv with rfl | rfl
          · refine bv_if_ne 133 131 rfl C d_M_part_128 (by decide) (fun h => absurd (show nI 0 = 0 by decide) h) (fun h => ?_)
            refine bv_iconst (v := nI 0) 132 rfl C d_M_part_131 (by decide) ?_
            exact bv_ireturn C rfl d_M_part_132 (Nat.le_refl _) (Nat.le_refl _) ⟨rfl, rfl, hP2.1, _, rfl⟩
          · refine bv_if_ne 133 131 rfl C d_M_part_128 (by decide) (fun h => ?_) (fun h => absurd h (show ¬ nI 1 = 0 by decide))
            obtain ⟨hI, hz, hz', hb, hr⟩ := hP2
            obtain ⟨th, V, wr, cu, dn, hV, hd, hm⟩ := hI.k305 (k := 305) (by decide) (by decide)
            refine bv_aload_n 134 rfl C d_M_part_133 rfl ?_
            refine bv_call (rest := []) 137 rfl C d_M_part_134 (j_M_firstFree hI hz hz' hcz) i_M_firstFree t1_8 (fun H locs ls hP => bs_V (av := []) 305 C i_M_firstFree t3_231 t3_233 s_47 (by omega) rfl hm rfl (by decide) rfl rfl d_M_part_134 H locs ls hP) ⟨by first | decide | omega, by first | decide | omega⟩ (by decide) (by decide) (Nat.le_of_ble_eq_true rfl) (fun v ad1 w3 N1 hpo => ?_) (fun x Cn ad' w' N' hth => hth.elim)
            obtain ⟨rfl, rfl, rfl, sl, hsl, hs0, rfl⟩ := hpo
            refine bv_istore 139 rfl C d_M_part_137 (by decide) ?_
            refine bv_aload_n 140 rfl C d_M_part_139 rfl ?_
            refine bv_get 305 1 143 rfl C k_M (by omega) rfl hm (by decide) t3_108 rfl d_M_part_140 ?_
            refine bv_iload 145 rfl C d_M_part_143 rfl ?_
            refine bv_iload 147 rfl C d_M_part_145 rfl ?_
            refine bv_iast 306 sl 148 rfl C (by omega) rfl hz rfl hsl (by decide) d_M_part_147 ?_
            have hP3 : PI dd ad (va_up w2 306 (aI dd 48 (upd fz sl (nI (cs n (8 * i)))))) (upd fz sl (nI (cs n (8 * i)))) fb fr := ⟨hI.up ((sh_306 (by decide)).mpr ⟨_, rfl, hz'.up (s := cs n (8 * i)) hc8 rfl⟩), va_up_self _ _ _, hz'.up (s := cs n (8 * i)) hc8 rfl, (va_up_ne _ _ (by decide)).trans hb, (va_up_ne _ _ (by decide)).trans hr⟩
            generalize va_up w2 306 (aI dd 48 (upd fz sl (nI (cs n (8 * i))))) = w3 at hP3 ⊢
            have copy : ∀ (d2 k : Nat) (w : Nat → va_E) (fb' : Nat → Int32), k + d2 = cs n (8 * i) → PI dd ad w (upd fz sl (nI (cs n (8 * i)))) fb' fr → (∀ t, (t < 8 * sl ∨ 8 * sl + 8 ≤ t) → fb' t = fb t) → (∀ k', k' < k → fb' (8 * sl + k') = fr (8 * i + k')) → bV p l e { frames := 3, cells := 0, slots := 0, locals := 73 } s m args below meth c dd A 15 0 0 (bJ dd ad vI) (bNo) 151 (bO [(0, .ref (ad 305)), (1, .int (nI j)), (2, .int (nI q)), (3, .int (nI n)), (10, .int r), (11, .int (nI (8 * i))), (12, .int (nI (cs n (8 * i)))), (13, .int (nI sl)), (14, .int (nI k))]) [] ad w 324 0 0 := by
              intro d2
              induction d2 with
              | zero =>
                intro k w fb' hk hP hF1 hF2
                refine bv_iload 153 rfl C d_M_part_151 rfl ?_
                refine bv_iload 155 rfl C d_M_part_153 rfl ?_
                refine bv_icmp_ge 187 158 rfl C d_M_part_155 (by decide) (fun h => ?_) (fun h => absurd (nI_le (show cs n (8 * i) ≤ k by omega) (by omega)) h)
                refine bv_iinc 190 rfl C d_M_part_187 rfl (by first | exact b_inc _ | rfl) (by decide) ?_
                refine bv_wk [(0, .ref (ad 305)), (1, .int (nI j)), (2, .int (nI q)), (3, .int (nI n)), (10, .int (r + Int32.ofInt 1)), (11, .int (nI (8 * i)))] ⟨rfl, rfl, rfl, rfl, rfl, rfl, trivial⟩ ?_
                refine next _ w _ _ hP (fun jj hjj s' hs' h => (hA jj hjj s' hs' h).keep hjj hs0 hF1) (fun jj hjj => ?_) ?_
                · by_cases e : jj = i
                  · subst e
                    exact ⟨sl, hsl, pk_us, fun k' hk' => hF2 k' (by omega)⟩
                  · obtain ⟨s', hs', h⟩ := hB jj (by omega)
                    exact ⟨s', hs', h.keep (by omega) hs0 hF1⟩
                · have := (cz_up (f := fz) (s := sl) (x := nI (cs n (8 * i))) 48).1
                  omega
              | succ d2 ih2 =>
                intro k w fb' hk hP hF1 hF2
                obtain ⟨hI, hz, hz', hb, hr⟩ := hP
                obtain ⟨th, V, wr, cu, dn, hV, hd, hm⟩ := hI.k305 (k := 305) (by decide) (by decide)
                refine bv_iload 153 rfl C d_M_part_151 rfl ?_
                refine bv_iload 155 rfl C d_M_part_153 rfl ?_
                refine bv_icmp_ge 187 158 rfl C d_M_part_155 (by decide) (fun h => absurd h (nI_ge (show k < cs n (8 * i) by omega) (by omega))) (fun h => ?_)
                refine bv_aload_n 159 rfl C d_M_part_158 rfl ?_
                refine bv_get 305 2 162 rfl C k_M (by omega) rfl hm (by decide) t3_109 rfl d_M_part_159 ?_
                refine bv_bipush (v := nI 8) 164 rfl C d_M_part_162 (by decide) ?_
                refine bv_iload 166 rfl C d_M_part_164 rfl ?_
                refine bv_imul 167 rfl C d_M_part_166 ?_
                refine bv_iload 169 rfl C d_M_part_167 rfl ?_
                refine bv_iadd 170 rfl C d_M_part_169 ?_
                refine bv_seti (nI (8*sl+k)) (by rw [pk_mul, nI_add]) ?_
                refine bv_aload_n 171 rfl C d_M_part_170 rfl ?_
                refine bv_get 305 20 174 rfl C k_M (by omega) rfl hm (by decide) t3_127 rfl d_M_part_171 ?_
                refine bv_iload 176 rfl C d_M_part_174 rfl ?_
                refine bv_iload 178 rfl C d_M_part_176 rfl ?_
                refine bv_iadd 179 rfl C d_M_part_178 ?_
                refine bv_iald 321 (8*i+k) 180 rfl C (by omega) rfl hr (nI_add (8*i) k) (by omega) (by decide) d_M_part_179 ?_
                refine bv_iast 307 (8*sl+k) 181 rfl C (by omega) rfl hb rfl (by omega) (by decide) d_M_part_180 ?_
                have hP4 : PI dd ad (va_up w 307 (aI dd 384 (upd fb' (8 * sl + k) (fr (8 * i + k))))) (upd fz sl (nI (cs n (8 * i)))) (upd fb' (8 * sl + k) (fr (8 * i + k))) fr := ⟨hI.up ((sh_307 (by decide)).mpr ⟨_, rfl⟩), (va_up_ne _ _ (by decide)).trans hz, hz', va_up_self _ _ _, (va_up_ne _ _ (by decide)).trans hr⟩
                refine bv_iinc 184 rfl C d_M_part_181 rfl (by first | exact b_inc _ | rfl) (by decide) ?_
                refine bv_goto 151 C d_M_part_184 (by decide) ?_
                refine bv_wk [(0, .ref (ad 305)), (1, .int (nI j)), (2, .int (nI q)), (3, .int (nI n)), (10, .int r), (11, .int (nI (8 * i))), (12, .int (nI (cs n (8 * i)))), (13, .int (nI sl)), (14, .int (nI (k + 1)))] ⟨rfl, rfl, rfl, rfl, rfl, rfl, rfl, rfl, rfl, trivial⟩ ?_
                refine ih2 (k + 1) _ _ (by omega) hP4 (fun t ht => ?_) (fun k' hk' => ?_)
                · rw [pk_un (by omega)]; exact hF1 t ht
                · by_cases e : k' = k
                  · subst e; exact pk_us
                  · rw [pk_un (by omega)]; exact hF2 k' (by omega)
            refine bv_iconst (v := nI 0) 149 rfl C d_M_part_148 (by decide) ?_
            refine bv_istore 151 rfl C d_M_part_149 (by decide) ?_
            refine bv_wk [(0, .ref (ad 305)), (1, .int (nI j)), (2, .int (nI q)), (3, .int (nI n)), (10, .int r), (11, .int (nI (8 * i))), (12, .int (nI (cs n (8 * i)))), (13, .int (nI sl)), (14, .int (nI 0))] ⟨rfl, rfl, rfl, rfl, rfl, rfl, rfl, rfl, rfl, trivial⟩ ?_
            exact copy (cs n (8 * i)) 0 w3 fb (by omega) hP3 (fun _ _ => rfl) (fun k' hk' => absurd hk' (Nat.not_lt_zero k'))
        · refine bv_if_lt 123 120 rfl C d_M_part_117 (by decide) (fun h => absurd h (nI_pos (by omega))) (fun h => ?_)
          refine bv_goto 190 C d_M_part_120 (by decide) ?_
          refine bv_wk [(0, .ref (ad 305)), (1, .int (nI j)), (2, .int (nI q)), (3, .int (nI n)), (10, .int r), (11, .int (nI (8 * i)))] ⟨rfl, rfl, rfl, rfl, rfl, rfl, trivial⟩ ?_
          refine next r w fz fb hP0 hA (fun jj hjj => ?_) (Nat.le_trans hC (Nat.add_le_add_left (mono i) _))
          by_cases e : jj = i
          · subst e; exact ⟨s', hs', ht⟩
          · exact hB jj (by omega)
    obtain ⟨th, V, wr, cu, dn, hV, hd, hm⟩ := hI.k305 (k := 305) (by decide) (by decide)
    obtain ⟨fr0, hr0⟩ := hI.k321 (k := 321) (by decide) (by decide)
    refine bv_aload_n 54 rfl C d_M_part_53 rfl ?_
    refine bv_lload 56 rfl C d_M_part_54 rfl ?_
    refine bv_lload 58 rfl C d_M_part_56 rfl ?_
    refine bv_lload 60 rfl C d_M_part_58 rfl ?_
    refine bv_call (rest := []) 63 rfl C d_M_part_60 (ct_M_lay (by decide) hm hr0 (a := a) (b := b) (c0 := c0)) i_M_lay t1_8 (fun H locs ls hP => bs_V (av := [.long a, .long b, .long c0]) 305 C i_M_lay t3_203 t3_205 s_41 (by omega) rfl hm rfl (by decide) rfl rfl d_M_part_60 H locs ls hP) ⟨by first | decide | omega, by first | decide | omega⟩ (by decide) (by decide) (Nat.le_of_ble_eq_true rfl) (fun v ad1 w1 N1 hpo => ?_) (fun x Cn ad' w' N' hth => hth.elim)
    obtain ⟨rfl, rfl, rfl, f, rfl⟩ := hpo
    refine bv_any (hI.up ((sh_321 (by decide)).mpr ⟨_, rfl⟩)) (fun w1 hI1 => ?_)
    obtain ⟨th, V, wr, cu, dn, hV, hd, hm⟩ := hI1.k305 (k := 305) (by decide) (by decide)
    obtain ⟨fz, hz, hz'⟩ := hI1.k306 (k := 306) (by decide) (by decide)
    obtain ⟨fb, hb⟩ := hI1.k307 (k := 307) (by decide) (by decide)
    obtain ⟨fr, hr⟩ := hI1.k321 (k := 321) (by decide) (by decide)
    refine bv_aload_n 64 rfl C d_M_part_63 rfl ?_
    refine bv_aload_n 65 rfl C d_M_part_64 rfl ?_
    refine bv_iload_n 66 rfl C d_M_part_65 rfl ?_
    refine bv_call (rest := [.ref (ad 305)]) 69 rfl C d_M_part_66 (j_M_missing hI1 hz hb hr hn) i_M_missing t1_8 (fun H locs ls hP => bs_V (av := [.int (nI n)]) 305 C i_M_missing t3_208 t3_210 s_42 (by omega) rfl hm rfl (by decide) rfl rfl d_M_part_66 H locs ls hP) ⟨by first | decide | omega, by first | decide | omega⟩ (by decide) (by decide) (Nat.le_of_ble_eq_true rfl) (fun v ad1 w2 N1 hpo => ?_) (fun x Cn ad' w' N' hth => hth.elim)
    obtain ⟨rfl, rfl, rfl, g, hg1, hg2, rfl⟩ := hpo
    refine bv_aload_n 70 rfl C d_M_part_69 rfl ?_
    refine bv_call (rest := [.int (nI (sg g ((n + 7) / 8))), .ref (ad 305)]) 73 rfl C d_M_part_70 (j_M_freeSlots hI1 hz) i_M_freeSlots t1_8 (fun H locs ls hP => bs_V (av := []) 305 C i_M_freeSlots t3_227 t3_229 s_46 (by omega) rfl hm rfl (by decide) rfl rfl d_M_part_70 H locs ls hP) ⟨by first | decide | omega, by first | decide | omega⟩ (by decide) (by decide) (Nat.le_of_ble_eq_true rfl) (fun v ad1 w2 N1 hpo => ?_) (fun x Cn ad' w' N' hth => hth.elim)
    obtain ⟨rfl, rfl, rfl, rfl⟩ := hpo
    have b1 := sg_le hg1 ((n + 7) / 8)
    have b2 := cz_le fz 48
    have says2 : ∀ (u : Int32), (sg g ((n + 7) / 8) ≤ cz fz 48 ∨ ¬ u = 0) → bV p l e { frames := 3, cells := 0, slots := 0, locals := 73 } s m args below meth c dd A 15 0 0 (bJ dd ad vI) (bNo) 81 (bO [(0, .ref (ad 305)), (1, .int (nI j)), (2, .int (nI q)), (3, .int (nI n))]) [.int u, .ref (ad 305)] ad w1 324 0 0 := by
      intro u hu0
      refine bv_call (rest := []) 84 rfl C d_M_part_81 (ct_M_says (by decide) hm (x := u)) i_M_says t1_8 (fun H locs ls hP => bs_V (av := [.int u]) 305 C i_M_says t3_187 t3_189 s_38 (by omega) rfl hm rfl (by decide) rfl rfl d_M_part_81 H locs ls hP) ⟨by first | decide | omega, by first | decide | omega⟩ (by decide) (by decide) (Nat.le_of_ble_eq_true rfl) (fun v ad1 w2 N1 hpo => ?_) (fun x Cn ad' w' N' hth => hth.elim)
      obtain ⟨rfl, rfl, rfl, hv⟩ := hpo
      have hP1 : PI dd ad (va_up w1 305 (mO ad u (nI V) wr cu dn)) fz fb fr := PI.m ⟨hI1, hz, hz', hb, hr⟩ hV hd
      generalize va_up w1 305 (mO ad u (nI V) wr cu dn) = w2 at hP1 ⊢
      rcases hv with ⟨hu, rfl⟩ | ⟨hu, rfl⟩
      · have hle := hu0.resolve_right (fun h => h hu)
        refine bv_if_ne 89 87 rfl C d_M_part_84 (by decide) (fun h => ?_) (fun h => absurd h (show ¬ nI 1 = 0 by decide))
        refine bv_iconst (v := nI 0) 90 rfl C d_M_part_89 (by decide) ?_
        refine bv_istore 92 rfl C d_M_part_90 (by decide) ?_
        refine bv_iconst (v := nI 0) 93 rfl C d_M_part_92 (by decide) ?_
        refine bv_istore 95 rfl C d_M_part_93 (by decide) ?_
        refine bv_wk [(0, .ref (ad 305)), (1, .int (nI j)), (2, .int (nI q)), (3, .int (nI n)), (10, .int (nI 0)), (11, .int (nI (8 * 0)))] ⟨rfl, rfl, rfl, rfl, rfl, rfl, trivial⟩ ?_
        exact loop fz fb fr g hg2 ((n + 7) / 8) 0 _ w2 fz fb (by omega) hP1 (fun _ _ _ _ h => h) (fun jj hjj => absurd hjj (Nat.not_lt_zero jj)) (Nat.le_trans hle (Nat.le_add_right _ _))
      · refine bv_if_ne 89 87 rfl C d_M_part_84 (by decide) (fun h => absurd (show nI 0 = 0 by decide) h) (fun h => ?_)
        refine bv_iconst (v := nI 0) 88 rfl C d_M_part_87 (by decide) ?_
        exact bv_ireturn C rfl d_M_part_88 (Nat.le_refl _) (Nat.le_refl _) ⟨rfl, rfl, hP1.1, _, rfl⟩
    refine bv_icmp_le 80 76 rfl C d_M_part_73 (by decide) (fun x1 => ?_) (fun x1 => ?_)
    · have hle : sg g ((n + 7) / 8) ≤ cz fz 48 := (nI_leI (by omega) (by omega)).mp x1
      refine bv_iconst (v := nI 0) 81 rfl C d_M_part_80 (by decide) ?_
      exact bv_wk [(0, .ref (ad 305)), (1, .int (nI j)), (2, .int (nI q)), (3, .int (nI n))] ⟨rfl, rfl, rfl, rfl, trivial⟩ (says2 _ (Or.inl hle))
    · refine bv_iconst (v := nI 3) 77 rfl C d_M_part_76 (by decide) ?_
      refine bv_goto 81 C d_M_part_77 (by decide) ?_
      exact bv_wk [(0, .ref (ad 305)), (1, .int (nI j)), (2, .int (nI q)), (3, .int (nI n))] ⟨rfl, rfl, rfl, rfl, trivial⟩ (says2 _ (Or.inr (by decide)))
  have says : ∀ (u : Int32), (((∃ i, i < 5 ∧ x = nI i) ∧ (∃ q, 1 ≤ q ∧ q ≤ 6 ∧ y = nI q) ∧ ∃ n, n ≤ 24 ∧ z = nI n) ∨ ¬ u = 0) → bV p l e { frames := 3, cells := 0, slots := 0, locals := 73 } s m args below meth c dd A 15 0 0 (bJ dd ad vI) (bNo) 45 (bO [(0, .ref (ad 305)), (1, .int x), (2, .int y), (3, .int z), (4, .long a), (6, .long b), (8, .long c0)]) [.int u, .ref (ad 305)] ad w 324 0 0 := by
    intro u hx
    refine bv_call (rest := []) 48 rfl C d_M_part_45 (ct_M_says (by decide) hm (x := u)) i_M_says t1_8 (fun H locs ls hP => bs_V (av := [.int u]) 305 C i_M_says t3_187 t3_189 s_38 (by omega) rfl hm rfl (by decide) rfl rfl d_M_part_45 H locs ls hP) ⟨by first | decide | omega, by first | decide | omega⟩ (by decide) (by decide) (Nat.le_of_ble_eq_true rfl) (fun v ad1 w1 N1 hpo => ?_) (fun x Cn ad' w' N' hth => hth.elim)
    obtain ⟨rfl, rfl, rfl, hv⟩ := hpo
    have hI1 : II dd ad (va_up w 305 (mO ad u (nI V) wr cu dn)) := hI.m hV hd
    generalize va_up w 305 (mO ad u (nI V) wr cu dn) = w1 at hI1 ⊢
    rcases hv with ⟨hu, rfl⟩ | ⟨hu, rfl⟩
    · obtain ⟨⟨i, hi, rfl⟩, ⟨q, hq1, hq2, rfl⟩, n, hn, rfl⟩ := hx.resolve_right (fun h => h hu)
      refine bv_if_ne 53 51 rfl C d_M_part_48 (by decide) (fun h => ?_) (fun h => absurd h (show ¬ nI 1 = 0 by decide))
      exact body i q n w1 hi hq1 hq2 hn hI1
    · refine bv_if_ne 53 51 rfl C d_M_part_48 (by decide) (fun h => absurd (show nI 0 = 0 by decide) h) (fun h => ?_)
      refine bv_iconst (v := nI 0) 52 rfl C d_M_part_51 (by decide) ?_
      exact bv_ireturn C rfl d_M_part_52 (Nat.le_refl _) (Nat.le_refl _) ⟨rfl, rfl, hI1, _, rfl⟩
  refine bv_aload_n 1 rfl C d_M_part_0 rfl ?_
  refine bv_aload_n 2 rfl C d_M_part_1 rfl ?_
  refine bv_get 305 16 5 rfl C k_M (by omega) rfl hm (by decide) t3_123 rfl d_M_part_2 ?_
  refine bv_if_eq 12 8 rfl C d_M_part_5 (by decide) (fun x1 => ?_) (fun x1 => ?_)
  · refine bv_aload_n 13 rfl C d_M_part_12 rfl ?_
    refine bv_iload_n 14 rfl C d_M_part_13 rfl ?_
    refine bv_call (rest := [.ref (ad 305)]) 17 rfl C d_M_part_14 (j_M_isOpen hI (x := x)) i_M_isOpen t1_8 (fun H locs ls hP => bs_V (av := [.int x]) 305 C i_M_isOpen t3_199 t3_201 s_40 (by omega) rfl hm rfl (by decide) rfl rfl d_M_part_14 H locs ls hP) ⟨by first | decide | omega, by first | decide | omega⟩ (by decide) (by decide) (Nat.le_of_ble_eq_true rfl) (fun v ad1 w1 N1 hpo => ?_) (fun x Cn ad' w' N' hth => hth.elim)
    obtain ⟨rfl, rfl, rfl, hv⟩ := hpo
    rcases hv with rfl | ⟨i, hi, rfl, rfl⟩
    · refine bv_if_eq 40 20 rfl C d_M_part_17 (by decide) (fun h => ?_) (fun h => absurd (show nI 0 = 0 by decide) h)
      refine bv_iconst (v := nI 2) 41 rfl C d_M_part_40 (by decide) ?_
      refine bv_goto 45 C d_M_part_41 (by decide) ?_
      exact says _ (Or.inr (by decide))
    · refine bv_if_eq 40 20 rfl C d_M_part_17 (by decide) (fun h => absurd h (show ¬ nI 1 = 0 by decide)) (fun h => ?_)
      refine bv_iload_n 21 rfl C d_M_part_20 rfl ?_
      refine bv_iconst (v := nI 1) 22 rfl C d_M_part_21 (by decide) ?_
      refine bv_bipush (v := nI 6) 24 rfl C d_M_part_22 (by decide) ?_
      refine bv_call (rest := [.ref (ad 305)]) 27 rfl C d_M_part_24 (ct_M_in (x := y) (a := nI 1) (b := nI 6)) i_M_in t1_8 (fun H locs ls _ => bs_S (av := [.int y, .int (nI 1), .int (nI 6)]) C i_M_in t3_184 t3_185 t1_8 (by decide) rfl rfl d_M_part_24 H locs ls) ⟨by first | decide | omega, by first | decide | omega⟩ (by decide) (by decide) (Nat.le_of_ble_eq_true rfl) (fun v ad1 w1 N1 hpo => ?_) (fun x Cn ad' w' N' hth => hth.elim)
      obtain ⟨rfl, rfl, rfl, hv⟩ := hpo
      rcases hv with ⟨hy, rfl⟩ | ⟨-, rfl⟩
      · obtain ⟨q, hq1, hq2, rfl⟩ := b_in (by decide) (by decide) hy
        refine bv_if_eq 40 30 rfl C d_M_part_27 (by decide) (fun h => absurd h (show ¬ nI 1 = 0 by decide)) (fun h => ?_)
        refine bv_iload_n 31 rfl C d_M_part_30 rfl ?_
        refine bv_iconst (v := nI 0) 32 rfl C d_M_part_31 (by decide) ?_
        refine bv_bipush (v := nI 24) 34 rfl C d_M_part_32 (by decide) ?_
        refine bv_call (rest := [.ref (ad 305)]) 37 rfl C d_M_part_34 (ct_M_in (x := z) (a := nI 0) (b := nI 24)) i_M_in t1_8 (fun H locs ls _ => bs_S (av := [.int z, .int (nI 0), .int (nI 24)]) C i_M_in t3_184 t3_185 t1_8 (by decide) rfl rfl d_M_part_34 H locs ls) ⟨by first | decide | omega, by first | decide | omega⟩ (by decide) (by decide) (Nat.le_of_ble_eq_true rfl) (fun v ad1 w1 N1 hpo => ?_) (fun x Cn ad' w' N' hth => hth.elim)
        obtain ⟨rfl, rfl, rfl, hv⟩ := hpo
        rcases hv with ⟨hz, rfl⟩ | ⟨-, rfl⟩
        · obtain ⟨n, -, hn, rfl⟩ := b_in (by decide) (by decide) hz
          refine bv_if_ne 44 40 rfl C d_M_part_37 (by decide) (fun h => ?_) (fun h => absurd h (show ¬ nI 1 = 0 by decide))
          refine bv_iconst (v := nI 0) 45 rfl C d_M_part_44 (by decide) ?_
          exact says _ (Or.inl ⟨⟨i, hi, rfl⟩, ⟨q, hq1, hq2, rfl⟩, n, hn, rfl⟩)
        · refine bv_if_ne 44 40 rfl C d_M_part_37 (by decide) (fun h => absurd (show nI 0 = 0 by decide) h) (fun h => ?_)
          refine bv_iconst (v := nI 2) 41 rfl C d_M_part_40 (by decide) ?_
          refine bv_goto 45 C d_M_part_41 (by decide) ?_
          exact says _ (Or.inr (by decide))
      · refine bv_if_eq 40 30 rfl C d_M_part_27 (by decide) (fun h => ?_) (fun h => absurd (show nI 0 = 0 by decide) h)
        refine bv_iconst (v := nI 2) 41 rfl C d_M_part_40 (by decide) ?_
        refine bv_goto 45 C d_M_part_41 (by decide) ?_
        exact says _ (Or.inr (by decide))
  · refine bv_iconst (v := nI 1) 9 rfl C d_M_part_8 (by decide) ?_
    refine bv_goto 45 C d_M_part_9 (by decide) ?_
    exact says _ (Or.inr (by decide))
end bQ14

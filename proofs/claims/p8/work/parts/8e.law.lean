theorem II.of {dd : bD} {ad : Nat → Nat} {w : Nat → va_E} {g0 : Nat → Int64} (hB : FB dd ad w) (hM : FM dd ad w) (ho : w 323 = aL dd 1 g0) : II dd ad w := by
  obtain ⟨⟨e0, e1, e2, e3, e8, e9, e10, e11, e12⟩, ⟨c1, d1⟩, ⟨c2, d2⟩, ⟨c3, d3⟩, ⟨c4, d4⟩⟩ := hB
  obtain ⟨h0, h1, h2, h3, h4, h5, h6, h7, h8, h9, h10, h11, h12, h13, h14, h15, h16, h17⟩ := hM
  have n0 : (0 : Int32) = nI 0 := by decide
  have z48 : ∀ n, In48 (fun _ => 0) n := fun n i _ => ⟨0, by decide, n0⟩
  have zLe : ∀ n m, InLe (fun _ => 0) n m := fun n m i _ => ⟨0, Nat.zero_le _, n0⟩
  have zM : ∀ n, InM (fun _ => 0) n := fun n i _ => Or.inr ⟨0, by decide, n0⟩
  intro k hk
  by_cases a1 : k < 13
  · rcases (show k = 0 ∨ k = 1 ∨ k = 2 ∨ k = 3 ∨ k = 4 ∨ k = 5 ∨ k = 6 ∨ k = 7 ∨ k = 8 ∨ k = 9 ∨ k = 10 ∨ k = 11 ∨ k = 12 by omega) with rfl | rfl | rfl | rfl | rfl | rfl | rfl | rfl | rfl | rfl | rfl | rfl | rfl
    · exact (sh_0 (by decide)).mpr ⟨0, by decide, e0⟩
    · exact (sh_1 (by decide)).mpr ⟨_, _, _, e1⟩
    · exact (sh_2 (by decide)).mpr e2
    · exact (sh_3 (by decide)).mpr ⟨_, e3⟩
    · exact (sh_4 (by decide)).mpr c1
    · exact (sh_5 (by decide)).mpr c2
    · exact (sh_6 (by decide)).mpr c3
    · exact (sh_7 (by decide)).mpr c4
    · exact (sh_17 (by decide)).mpr ⟨0, by decide, e8⟩
    · exact (sh_18 (by decide)).mpr ⟨_, e9, z48 3⟩
    · exact (sh_13 (by decide)).mpr ⟨_, _, e10⟩
    · exact (sh_14 (by decide)).mpr ⟨_, e11⟩
    · exact (sh_12 (by decide)).mpr ⟨_, e12⟩
  by_cases a2 : k < 109
  · obtain ⟨j, hj, hr⟩ : ∃ j, j < 48 ∧ (k = 13 + 2 * j ∨ k = 13 + 2 * j + 1) := ⟨(k - 13) / 2, by omega, by omega⟩
    rcases hr with rfl | rfl
    · exact (sh_13 (kd_c hj)).mpr ⟨_, _, (d1 j hj).1⟩
    · exact (sh_14 (kd_c1 hj)).mpr ⟨_, (d1 j hj).2⟩
  by_cases a3 : k < 179
  · obtain ⟨j, hj, r, hr, rfl⟩ : ∃ j, j < 5 ∧ ∃ r, r < 14 ∧ k = 109 + 14 * j + r := ⟨(k - 109) / 14, by omega, (k - 109) % 14, by omega, by omega⟩
    obtain ⟨s0, s1, s2⟩ := d2 j hj
    by_cases r0 : r = 0
    · subst r0
      exact (sh_15 (kd_s hj)).mpr ⟨_, _, _, s0⟩
    by_cases r1 : r = 1
    · subst r1
      exact (sh_16 (kd_s1 hj)).mpr s1
    obtain ⟨i, hi, hr'⟩ : ∃ i, i < 6 ∧ (r = 2 + 2 * i ∨ r = 2 + 2 * i + 1) := ⟨(r - 2) / 2, by omega, by omega⟩
    rcases hr' with rfl | rfl
    · rw [show 109 + 14 * j + (2 + 2 * i) = 109 + 14 * j + 2 + 2 * i by omega]
      exact (sh_17 (kd_p hj hi)).mpr ⟨0, by decide, by rw [(s2 i hi).1, show 109 + 14 * j + 2 + 2 * i + 1 = 109 + 14 * j + 3 + 2 * i by omega]⟩
    · rw [show 109 + 14 * j + (2 + 2 * i + 1) = 109 + 14 * j + 2 + 2 * i + 1 by omega]
      refine (sh_18 (kd_p1 hj hi)).mpr ⟨fun _ => 0, ?_, z48 3⟩
      rw [show 109 + 14 * j + 2 + 2 * i + 1 = 109 + 14 * j + 3 + 2 * i by omega]
      exact (s2 i hi).2
  by_cases a4 : k < 299
  · obtain ⟨j, hj, hr⟩ : ∃ j, j < 40 ∧ (k = 179 + 3 * j ∨ k = 179 + 3 * j + 1 ∨ k = 179 + 3 * j + 1 + 1) := ⟨(k - 179) / 3, by omega, by omega⟩
    rcases hr with rfl | rfl | rfl
    · exact (sh_19 (kd_v hj)).mpr ⟨_, _, _, (d3 j hj).1⟩
    · exact (sh_20 (kd_v1 hj)).mpr ⟨0, by decide, (d3 j hj).2.1⟩
    · exact (sh_21 (kd_v2 hj)).mpr ⟨_, (d3 j hj).2.2, z48 18⟩
  by_cases a5 : k < 305
  · obtain ⟨j, hj, hr⟩ : ∃ j, j < 3 ∧ (k = 299 + 2 * j ∨ k = 299 + 2 * j + 1) := ⟨(k - 299) / 2, by omega, by omega⟩
    rcases hr with rfl | rfl
    · exact (sh_13 (kd_i hj)).mpr ⟨_, _, (d4 j hj).1⟩
    · exact (sh_14 (kd_i1 hj)).mpr ⟨_, (d4 j hj).2⟩
  rcases (show k = 305 ∨ k = 306 ∨ k = 307 ∨ k = 308 ∨ k = 309 ∨ k = 310 ∨ k = 311 ∨ k = 312 ∨ k = 313 ∨ k = 314 ∨ k = 315 ∨ k = 316 ∨ k = 317 ∨ k = 318 ∨ k = 319 ∨ k = 320 ∨ k = 321 ∨ k = 322 ∨ k = 323 by omega) with rfl | rfl | rfl | rfl | rfl | rfl | rfl | rfl | rfl | rfl | rfl | rfl | rfl | rfl | rfl | rfl | rfl | rfl | rfl
  · exact (sh_305 (by decide)).mpr ⟨0, 0, 0, -1, 0, by decide, Or.inl rfl, by rw [← n0]; exact h0⟩
  · exact (sh_306 (by decide)).mpr ⟨_, h1, zLe _ _⟩
  · exact (sh_307 (by decide)).mpr ⟨_, h2⟩
  · exact (sh_308 (by decide)).mpr ⟨_, h3⟩
  · exact (sh_309 (by decide)).mpr ⟨_, h4⟩
  · exact (sh_310 (by decide)).mpr ⟨_, h5⟩
  · exact (sh_311 (by decide)).mpr ⟨_, h6, zM _⟩
  · exact (sh_312 (by decide)).mpr ⟨_, h7, z48 _⟩
  · exact (sh_313 (by decide)).mpr ⟨_, h8⟩
  · exact (sh_314 (by decide)).mpr ⟨_, h9⟩
  · exact (sh_315 (by decide)).mpr ⟨_, h10⟩
  · exact (sh_316 (by decide)).mpr ⟨_, h11, zLe _ _⟩
  · exact (sh_317 (by decide)).mpr ⟨_, h12, z48 _⟩
  · exact (sh_318 (by decide)).mpr h13
  · exact (sh_319 (by decide)).mpr ⟨_, h14⟩
  · exact (sh_320 (by decide)).mpr ⟨_, h15⟩
  · exact (sh_321 (by decide)).mpr ⟨_, h16⟩
  · exact (sh_322 (by decide)).mpr h17
  · exact (sh_323 (by decide)).mpr ⟨_, ho⟩
section bEight
variable {p : Program} {l : Launch} {e : Env} {s : State} {m : MethodId} {args : Array Value} {below : List Frame} {meth : Method} {c : Code} {dd : bD} {A : Nat → Prop} {ad : Nat → Nat} {w : Nat → va_E} {b L t : Nat} {xs : Nat → Int32}
/-- behind a call: on to the next one -/
theorem law8_next {cells slots : Nat} (C : bCx p { frames := 12, cells := 601024, slots := 7293034, locals := 484 } s m args meth c code "BlobStoreLaw" 7 (some .boolean) [] dd A) (ih : ∀ w', II dd ad w' → bV p l e { frames := 12, cells := 601024, slots := 7293034, locals := 484 } s m args below meth c dd A 7 601024 7293034 (fun v _ _ _ => v = some (.int 1)) bNo 23 (bO [(0, .ref b), (1, .ref (ad 0)), (2, .ref (ad 305)), (3, .ref (ad 323)), (4, .int (nI (10 * (t + 1))))]) [] ad w' 324 (324 + 50 * (t + 1)) (3647 + 300 * (t + 1))) (hI : II dd ad w) (hc : cells ≤ 324 + 50 * (t + 1)) (hs : slots ≤ 3647 + 300 * (t + 1)) : bV p l e { frames := 12, cells := 601024, slots := 7293034, locals := 484 } s m args below meth c dd A 7 601024 7293034 (fun v _ _ _ => v = some (.int 1)) bNo 752 (bO [(0, .ref b), (1, .ref (ad 0)), (2, .ref (ad 305)), (3, .ref (ad 323)), (4, .int (nI (10 * t)))]) [] ad w 324 cells slots := by
  refine bv_iinc (v := (nI (10*(t+1)))) 755 rfl C d_L_law_752 rfl (by rw [show Int32.ofInt 10 = nI 10 by decide, nI_add, show 10 * t + 10 = 10 * (t + 1) by omega]) (by decide) ?_
  refine bv_goto 23 C d_L_law_755 (by decide) ?_
  refine bv_wk [(0, .ref b), (1, .ref (ad 0)), (2, .ref (ad 305)), (3, .ref (ad 323)), (4, .int (nI (10 * (t + 1))))] ⟨rfl, rfl, rfl, rfl, rfl, trivial⟩ ?_
  refine bv_cs _ _ hc hs ?_
  exact ih _ hI
theorem law8_begin (C : bCx p { frames := 12, cells := 601024, slots := 7293034, locals := 484 } s m args meth c code "BlobStoreLaw" 7 (some .boolean) [] dd A) (hlt : bOff l) (hX : bX b L xs s A) (hL : L ≤ 5120) (ht : 10 * t + 10 ≤ L) (hI : II dd ad w) (ih : ∀ w', II dd ad w' → bV p l e { frames := 12, cells := 601024, slots := 7293034, locals := 484 } s m args below meth c dd A 7 601024 7293034 (fun v _ _ _ => v = some (.int 1)) bNo 23 (bO [(0, .ref b), (1, .ref (ad 0)), (2, .ref (ad 305)), (3, .ref (ad 323)), (4, .int (nI (10 * (t + 1))))]) [] ad w' 324 (324 + 50 * (t + 1)) (3647 + 300 * (t + 1))) : bV p l e { frames := 12, cells := 601024, slots := 7293034, locals := 484 } s m args below meth c dd A 7 601024 7293034 (fun v _ _ _ => v = some (.int 1)) bNo 116 (bO [(0, .ref b), (1, .ref (ad 0)), (2, .ref (ad 305)), (3, .ref (ad 323)), (4, .int (nI (10 * t)))]) [] ad w 324 (324 + 50 * t) (3647 + 300 * t) := by
  refine bv_aload_n 117 rfl C d_L_law_116 rfl ?_
  refine bv_aload_n 118 rfl C d_L_law_117 rfl ?_
  refine bv_iload 120 rfl C d_L_law_118 rfl ?_
  refine bv_iconst (v := nI 1) 121 rfl C d_L_law_120 (by decide) ?_
  refine bv_iadd 122 rfl C d_L_law_121 ?_
  refine bv_sld (10*t+1) 123 rfl C hX (nI_add _ _) (by omega) (by omega) d_L_law_122 ?_
  refine bv_aload_n 124 rfl C d_L_law_123 rfl ?_
  refine bv_iload 126 rfl C d_L_law_124 rfl ?_
  refine bv_iconst (v := nI 2) 127 rfl C d_L_law_126 (by decide) ?_
  refine bv_iadd 128 rfl C d_L_law_127 ?_
  refine bv_sld (10*t+2) 129 rfl C hX (nI_add _ _) (by omega) (by omega) d_L_law_128 ?_
  refine bv_aload_n 130 rfl C d_L_law_129 rfl ?_
  refine bv_call (rest := []) 133 rfl C d_L_law_130 (j_L_begin (dd := dd) hlt hI (b := (xs (10*t+1))) (q := (xs (10*t+2)))) i_L_begin t1_0 (fun H locs ls _ => bs_S (av := [.ref (ad 0), .int (xs (10*t+1)), .int (xs (10*t+2)), .ref (ad 323)]) C i_L_begin t2_51 t2_52 t1_0 (by decide) rfl rfl d_L_law_130 H locs ls) ⟨by first | decide | omega, by first | decide | omega⟩ (by show _ ≤ 601024; omega) (by show _ ≤ 7293034; omega) (Nat.le_of_ble_eq_true rfl) (fun v ad1 w1 N1 hpo => ?_) (fun x Cn ad' w' N' hth => hth.elim)
  obtain ⟨rfl, rfl, hI1, r, rfl⟩ := hpo
  obtain ⟨th, V, wr, cu, dn, -, -, hm⟩ := hI1.k305 (k := 305) (by decide) (by decide)
  refine bv_istore 135 rfl C d_L_law_133 (by decide) ?_
  refine bv_aload_n 136 rfl C d_L_law_135 rfl ?_
  refine bv_aload_n 137 rfl C d_L_law_136 rfl ?_
  refine bv_iload 139 rfl C d_L_law_137 rfl ?_
  refine bv_iconst (v := nI 1) 140 rfl C d_L_law_139 (by decide) ?_
  refine bv_iadd 141 rfl C d_L_law_140 ?_
  refine bv_sld (10*t+1) 142 rfl C hX (nI_add _ _) (by omega) (by omega) d_L_law_141 ?_
  refine bv_aload_n 143 rfl C d_L_law_142 rfl ?_
  refine bv_iload 145 rfl C d_L_law_143 rfl ?_
  refine bv_iconst (v := nI 2) 146 rfl C d_L_law_145 (by decide) ?_
  refine bv_iadd 147 rfl C d_L_law_146 ?_
  refine bv_sld (10*t+2) 148 rfl C hX (nI_add _ _) (by omega) (by omega) d_L_law_147 ?_
  refine bv_call (rest := []) 151 rfl C d_L_law_148 (j_M_begin (dd := dd) hI1 (x := (xs (10*t+1))) (y := (xs (10*t+2)))) i_M_begin t1_8 (fun H locs ls hP => bs_V (av := [.int (xs (10*t+1)), .int (xs (10*t+2))]) 305 C i_M_begin t3_180 t3_181 t3_182 (by decide) rfl hm rfl (by decide) rfl rfl d_L_law_148 H locs ls hP) ⟨by first | decide | omega, by first | decide | omega⟩ (by show _ ≤ 601024; omega) (by show _ ≤ 7293034; omega) (Nat.le_of_ble_eq_true rfl) (fun v ad2 w2 N2 hpo => ?_) (fun x Cn ad' w' N' hth => hth.elim)
  obtain ⟨rfl, rfl, hI2, r2, rfl⟩ := hpo
  refine bv_istore 153 rfl C d_L_law_151 (by decide) ?_
  refine bv_goto 752 C d_L_law_153 (by decide) ?_
  refine bv_wk [(0, .ref b), (1, .ref (ad 0)), (2, .ref (ad 305)), (3, .ref (ad 323)), (4, .int (nI (10 * t)))] ⟨rfl, rfl, rfl, rfl, rfl, trivial⟩ ?_
  exact law8_next C ih hI2 (by omega) (by omega)
theorem law8_part (C : bCx p { frames := 12, cells := 601024, slots := 7293034, locals := 484 } s m args meth c code "BlobStoreLaw" 7 (some .boolean) [] dd A) (hlt : bOff l) (hX : bX b L xs s A) (hL : L ≤ 5120) (ht : 10 * t + 10 ≤ L) (hI : II dd ad w) (ih : ∀ w', II dd ad w' → bV p l e { frames := 12, cells := 601024, slots := 7293034, locals := 484 } s m args below meth c dd A 7 601024 7293034 (fun v _ _ _ => v = some (.int 1)) bNo 23 (bO [(0, .ref b), (1, .ref (ad 0)), (2, .ref (ad 305)), (3, .ref (ad 323)), (4, .int (nI (10 * (t + 1))))]) [] ad w' 324 (324 + 50 * (t + 1)) (3647 + 300 * (t + 1))) : bV p l e { frames := 12, cells := 601024, slots := 7293034, locals := 484 } s m args below meth c dd A 7 601024 7293034 (fun v _ _ _ => v = some (.int 1)) bNo 156 (bO [(0, .ref b), (1, .ref (ad 0)), (2, .ref (ad 305)), (3, .ref (ad 323)), (4, .int (nI (10 * t)))]) [] ad w 324 (324 + 50 * t) (3647 + 300 * t) := by
  refine bv_aload_n 157 rfl C d_L_law_156 rfl ?_
  refine bv_aload_n 158 rfl C d_L_law_157 rfl ?_
  refine bv_iload 160 rfl C d_L_law_158 rfl ?_
  refine bv_iconst (v := nI 1) 161 rfl C d_L_law_160 (by decide) ?_
  refine bv_iadd 162 rfl C d_L_law_161 ?_
  refine bv_sld (10*t+1) 163 rfl C hX (nI_add _ _) (by omega) (by omega) d_L_law_162 ?_
  refine bv_aload_n 164 rfl C d_L_law_163 rfl ?_
  refine bv_iload 166 rfl C d_L_law_164 rfl ?_
  refine bv_iconst (v := nI 2) 167 rfl C d_L_law_166 (by decide) ?_
  refine bv_iadd 168 rfl C d_L_law_167 ?_
  refine bv_sld (10*t+2) 169 rfl C hX (nI_add _ _) (by omega) (by omega) d_L_law_168 ?_
  refine bv_aload_n 170 rfl C d_L_law_169 rfl ?_
  refine bv_iload 172 rfl C d_L_law_170 rfl ?_
  refine bv_iconst (v := nI 3) 173 rfl C d_L_law_172 (by decide) ?_
  refine bv_iadd 174 rfl C d_L_law_173 ?_
  refine bv_sld (10*t+3) 175 rfl C hX (nI_add _ _) (by omega) (by omega) d_L_law_174 ?_
  refine bv_aload_n 176 rfl C d_L_law_175 rfl ?_
  refine bv_iload 178 rfl C d_L_law_176 rfl ?_
  refine bv_iconst (v := nI 4) 179 rfl C d_L_law_178 (by decide) ?_
  refine bv_iadd 180 rfl C d_L_law_179 ?_
  refine bv_sld (10*t+4) 181 rfl C hX (nI_add _ _) (by omega) (by omega) d_L_law_180 ?_
  refine bv_i2l 182 rfl C d_L_law_181 rfl ?_
  refine bv_bipush (v := nI 32) 184 rfl C d_L_law_182 (by decide) ?_
  refine bv_lshl 185 rfl C d_L_law_184 rfl ?_
  refine bv_aload_n 186 rfl C d_L_law_185 rfl ?_
  refine bv_iload 188 rfl C d_L_law_186 rfl ?_
  refine bv_iconst (v := nI 5) 189 rfl C d_L_law_188 (by decide) ?_
  refine bv_iadd 190 rfl C d_L_law_189 ?_
  refine bv_sld (10*t+5) 191 rfl C hX (nI_add _ _) (by omega) (by omega) d_L_law_190 ?_
  refine bv_i2l 192 rfl C d_L_law_191 rfl ?_
  refine bv_ldc2 195 rfl C t4_70 d_L_law_192 ?_
  refine bv_land 196 rfl C d_L_law_195 ?_
  refine bv_lor 197 rfl C d_L_law_196 ?_
  refine bv_topl (fun u0 _ => ?_)
  refine bv_aload_n 198 rfl C d_L_law_197 rfl ?_
  refine bv_iload 200 rfl C d_L_law_198 rfl ?_
  refine bv_bipush (v := nI 6) 202 rfl C d_L_law_200 (by decide) ?_
  refine bv_iadd 203 rfl C d_L_law_202 ?_
  refine bv_sld (10*t+6) 204 rfl C hX (nI_add _ _) (by omega) (by omega) d_L_law_203 ?_
  refine bv_i2l 205 rfl C d_L_law_204 rfl ?_
  refine bv_bipush (v := nI 32) 207 rfl C d_L_law_205 (by decide) ?_
  refine bv_lshl 208 rfl C d_L_law_207 rfl ?_
  refine bv_aload_n 209 rfl C d_L_law_208 rfl ?_
  refine bv_iload 211 rfl C d_L_law_209 rfl ?_
  refine bv_bipush (v := nI 7) 213 rfl C d_L_law_211 (by decide) ?_
  refine bv_iadd 214 rfl C d_L_law_213 ?_
  refine bv_sld (10*t+7) 215 rfl C hX (nI_add _ _) (by omega) (by omega) d_L_law_214 ?_
  refine bv_i2l 216 rfl C d_L_law_215 rfl ?_
  refine bv_ldc2 219 rfl C t4_70 d_L_law_216 ?_
  refine bv_land 220 rfl C d_L_law_219 ?_
  refine bv_lor 221 rfl C d_L_law_220 ?_
  refine bv_topl (fun u1 _ => ?_)
  refine bv_aload_n 222 rfl C d_L_law_221 rfl ?_
  refine bv_iload 224 rfl C d_L_law_222 rfl ?_
  refine bv_bipush (v := nI 8) 226 rfl C d_L_law_224 (by decide) ?_
  refine bv_iadd 227 rfl C d_L_law_226 ?_
  refine bv_sld (10*t+8) 228 rfl C hX (nI_add _ _) (by omega) (by omega) d_L_law_227 ?_
  refine bv_i2l 229 rfl C d_L_law_228 rfl ?_
  refine bv_bipush (v := nI 32) 231 rfl C d_L_law_229 (by decide) ?_
  refine bv_lshl 232 rfl C d_L_law_231 rfl ?_
  refine bv_aload_n 233 rfl C d_L_law_232 rfl ?_
  refine bv_iload 235 rfl C d_L_law_233 rfl ?_
  refine bv_bipush (v := nI 9) 237 rfl C d_L_law_235 (by decide) ?_
  refine bv_iadd 238 rfl C d_L_law_237 ?_
  refine bv_sld (10*t+9) 239 rfl C hX (nI_add _ _) (by omega) (by omega) d_L_law_238 ?_
  refine bv_i2l 240 rfl C d_L_law_239 rfl ?_
  refine bv_ldc2 243 rfl C t4_70 d_L_law_240 ?_
  refine bv_land 244 rfl C d_L_law_243 ?_
  refine bv_lor 245 rfl C d_L_law_244 ?_
  refine bv_topl (fun u2 _ => ?_)
  refine bv_aload_n 246 rfl C d_L_law_245 rfl ?_
  refine bv_call (rest := []) 249 rfl C d_L_law_246 (j_L_part (dd := dd) hlt hI (x := (xs (10*t+1))) (y := (xs (10*t+2))) (z := (xs (10*t+3))) (a := u0) (b := u1) (c0 := u2)) i_L_part t1_0 (fun H locs ls _ => bs_S (av := [.ref (ad 0), .int (xs (10*t+1)), .int (xs (10*t+2)), .int (xs (10*t+3)), .long u0, .long u1, .long u2, .ref (ad 323)]) C i_L_part t2_182 t2_183 t1_0 (by decide) rfl rfl d_L_law_246 H locs ls) ⟨by first | decide | omega, by first | decide | omega⟩ (by show _ ≤ 601024; omega) (by show _ ≤ 7293034; omega) (Nat.le_of_ble_eq_true rfl) (fun v ad1 w1 N1 hpo => ?_) (fun x Cn ad' w' N' hth => hth.elim)
  obtain ⟨rfl, rfl, hI1, r, rfl⟩ := hpo
  obtain ⟨th, V, wr, cu, dn, -, -, hm⟩ := hI1.k305 (k := 305) (by decide) (by decide)
  refine bv_istore 251 rfl C d_L_law_249 (by decide) ?_
  refine bv_aload_n 252 rfl C d_L_law_251 rfl ?_
  refine bv_aload_n 253 rfl C d_L_law_252 rfl ?_
  refine bv_iload 255 rfl C d_L_law_253 rfl ?_
  refine bv_iconst (v := nI 1) 256 rfl C d_L_law_255 (by decide) ?_
  refine bv_iadd 257 rfl C d_L_law_256 ?_
  refine bv_sld (10*t+1) 258 rfl C hX (nI_add _ _) (by omega) (by omega) d_L_law_257 ?_
  refine bv_aload_n 259 rfl C d_L_law_258 rfl ?_
  refine bv_iload 261 rfl C d_L_law_259 rfl ?_
  refine bv_iconst (v := nI 2) 262 rfl C d_L_law_261 (by decide) ?_
  refine bv_iadd 263 rfl C d_L_law_262 ?_
  refine bv_sld (10*t+2) 264 rfl C hX (nI_add _ _) (by omega) (by omega) d_L_law_263 ?_
  refine bv_aload_n 265 rfl C d_L_law_264 rfl ?_
  refine bv_iload 267 rfl C d_L_law_265 rfl ?_
  refine bv_iconst (v := nI 3) 268 rfl C d_L_law_267 (by decide) ?_
  refine bv_iadd 269 rfl C d_L_law_268 ?_
  refine bv_sld (10*t+3) 270 rfl C hX (nI_add _ _) (by omega) (by omega) d_L_law_269 ?_
  refine bv_aload_n 271 rfl C d_L_law_270 rfl ?_
  refine bv_iload 273 rfl C d_L_law_271 rfl ?_
  refine bv_iconst (v := nI 4) 274 rfl C d_L_law_273 (by decide) ?_
  refine bv_iadd 275 rfl C d_L_law_274 ?_
  refine bv_sld (10*t+4) 276 rfl C hX (nI_add _ _) (by omega) (by omega) d_L_law_275 ?_
  refine bv_i2l 277 rfl C d_L_law_276 rfl ?_
  refine bv_bipush (v := nI 32) 279 rfl C d_L_law_277 (by decide) ?_
  refine bv_lshl 280 rfl C d_L_law_279 rfl ?_
  refine bv_aload_n 281 rfl C d_L_law_280 rfl ?_
  refine bv_iload 283 rfl C d_L_law_281 rfl ?_
  refine bv_iconst (v := nI 5) 284 rfl C d_L_law_283 (by decide) ?_
  refine bv_iadd 285 rfl C d_L_law_284 ?_
  refine bv_sld (10*t+5) 286 rfl C hX (nI_add _ _) (by omega) (by omega) d_L_law_285 ?_
  refine bv_i2l 287 rfl C d_L_law_286 rfl ?_
  refine bv_ldc2 290 rfl C t4_70 d_L_law_287 ?_
  refine bv_land 291 rfl C d_L_law_290 ?_
  refine bv_lor 292 rfl C d_L_law_291 ?_
  refine bv_topl (fun v0 _ => ?_)
  refine bv_aload_n 293 rfl C d_L_law_292 rfl ?_
  refine bv_iload 295 rfl C d_L_law_293 rfl ?_
  refine bv_bipush (v := nI 6) 297 rfl C d_L_law_295 (by decide) ?_
  refine bv_iadd 298 rfl C d_L_law_297 ?_
  refine bv_sld (10*t+6) 299 rfl C hX (nI_add _ _) (by omega) (by omega) d_L_law_298 ?_
  refine bv_i2l 300 rfl C d_L_law_299 rfl ?_
  refine bv_bipush (v := nI 32) 302 rfl C d_L_law_300 (by decide) ?_
  refine bv_lshl 303 rfl C d_L_law_302 rfl ?_
  refine bv_aload_n 304 rfl C d_L_law_303 rfl ?_
  refine bv_iload 306 rfl C d_L_law_304 rfl ?_
  refine bv_bipush (v := nI 7) 308 rfl C d_L_law_306 (by decide) ?_
  refine bv_iadd 309 rfl C d_L_law_308 ?_
  refine bv_sld (10*t+7) 310 rfl C hX (nI_add _ _) (by omega) (by omega) d_L_law_309 ?_
  refine bv_i2l 311 rfl C d_L_law_310 rfl ?_
  refine bv_ldc2 314 rfl C t4_70 d_L_law_311 ?_
  refine bv_land 315 rfl C d_L_law_314 ?_
  refine bv_lor 316 rfl C d_L_law_315 ?_
  refine bv_topl (fun v1 _ => ?_)
  refine bv_aload_n 317 rfl C d_L_law_316 rfl ?_
  refine bv_iload 319 rfl C d_L_law_317 rfl ?_
  refine bv_bipush (v := nI 8) 321 rfl C d_L_law_319 (by decide) ?_
  refine bv_iadd 322 rfl C d_L_law_321 ?_
  refine bv_sld (10*t+8) 323 rfl C hX (nI_add _ _) (by omega) (by omega) d_L_law_322 ?_
  refine bv_i2l 324 rfl C d_L_law_323 rfl ?_
  refine bv_bipush (v := nI 32) 326 rfl C d_L_law_324 (by decide) ?_
  refine bv_lshl 327 rfl C d_L_law_326 rfl ?_
  refine bv_aload_n 328 rfl C d_L_law_327 rfl ?_
  refine bv_iload 330 rfl C d_L_law_328 rfl ?_
  refine bv_bipush (v := nI 9) 332 rfl C d_L_law_330 (by decide) ?_
  refine bv_iadd 333 rfl C d_L_law_332 ?_
  refine bv_sld (10*t+9) 334 rfl C hX (nI_add _ _) (by omega) (by omega) d_L_law_333 ?_
  refine bv_i2l 335 rfl C d_L_law_334 rfl ?_
  refine bv_ldc2 338 rfl C t4_70 d_L_law_335 ?_
  refine bv_land 339 rfl C d_L_law_338 ?_
  refine bv_lor 340 rfl C d_L_law_339 ?_
  refine bv_topl (fun v2 _ => ?_)
  refine bv_call (rest := []) 343 rfl C d_L_law_340 (j_M_part (dd := dd) hI1 (x := (xs (10*t+1))) (y := (xs (10*t+2))) (z := (xs (10*t+3))) (a := v0) (b := v1) (c0 := v2)) i_M_part t1_8 (fun H locs ls hP => bs_V (av := [.int (xs (10*t+1)), .int (xs (10*t+2)), .int (xs (10*t+3)), .long v0, .long v1, .long v2]) 305 C i_M_part t3_195 t3_196 t3_197 (by decide) rfl hm rfl (by decide) rfl rfl d_L_law_340 H locs ls hP) ⟨by first | decide | omega, by first | decide | omega⟩ (by show _ ≤ 601024; omega) (by show _ ≤ 7293034; omega) (Nat.le_of_ble_eq_true rfl) (fun v ad2 w2 N2 hpo => ?_) (fun x Cn ad' w' N' hth => hth.elim)
  obtain ⟨rfl, rfl, hI2, r2, rfl⟩ := hpo
  refine bv_istore 345 rfl C d_L_law_343 (by decide) ?_
  refine bv_goto 752 C d_L_law_345 (by decide) ?_
  refine bv_wk [(0, .ref b), (1, .ref (ad 0)), (2, .ref (ad 305)), (3, .ref (ad 323)), (4, .int (nI (10 * t)))] ⟨rfl, rfl, rfl, rfl, rfl, trivial⟩ ?_
  exact law8_next C ih hI2 (by omega) (by omega)
theorem law8_complete (C : bCx p { frames := 12, cells := 601024, slots := 7293034, locals := 484 } s m args meth c code "BlobStoreLaw" 7 (some .boolean) [] dd A) (hlt : bOff l) (hX : bX b L xs s A) (hL : L ≤ 5120) (ht : 10 * t + 10 ≤ L) (hI : II dd ad w) (ih : ∀ w', II dd ad w' → bV p l e { frames := 12, cells := 601024, slots := 7293034, locals := 484 } s m args below meth c dd A 7 601024 7293034 (fun v _ _ _ => v = some (.int 1)) bNo 23 (bO [(0, .ref b), (1, .ref (ad 0)), (2, .ref (ad 305)), (3, .ref (ad 323)), (4, .int (nI (10 * (t + 1))))]) [] ad w' 324 (324 + 50 * (t + 1)) (3647 + 300 * (t + 1))) : bV p l e { frames := 12, cells := 601024, slots := 7293034, locals := 484 } s m args below meth c dd A 7 601024 7293034 (fun v _ _ _ => v = some (.int 1)) bNo 348 (bO [(0, .ref b), (1, .ref (ad 0)), (2, .ref (ad 305)), (3, .ref (ad 323)), (4, .int (nI (10 * t)))]) [] ad w 324 (324 + 50 * t) (3647 + 300 * t) := by
  refine bv_aload_n 349 rfl C d_L_law_348 rfl ?_
  refine bv_aload_n 350 rfl C d_L_law_349 rfl ?_
  refine bv_iload 352 rfl C d_L_law_350 rfl ?_
  refine bv_iconst (v := nI 1) 353 rfl C d_L_law_352 (by decide) ?_
  refine bv_iadd 354 rfl C d_L_law_353 ?_
  refine bv_sld (10*t+1) 355 rfl C hX (nI_add _ _) (by omega) (by omega) d_L_law_354 ?_
  refine bv_aload_n 356 rfl C d_L_law_355 rfl ?_
  refine bv_call (rest := []) 359 rfl C d_L_law_356 (j_L_complete (dd := dd) hlt hI (x := (xs (10*t+1)))) i_L_complete t1_0 (fun H locs ls _ => bs_S (av := [.ref (ad 0), .int (xs (10*t+1)), .ref (ad 323)]) C i_L_complete t3_15 t3_16 t1_0 (by decide) rfl rfl d_L_law_356 H locs ls) ⟨by first | decide | omega, by first | decide | omega⟩ (by show _ ≤ 601024; omega) (by show _ ≤ 7293034; omega) (Nat.le_of_ble_eq_true rfl) (fun v ad1 w1 N1 hpo => ?_) (fun x Cn ad' w' N' hth => hth.elim)
  obtain ⟨rfl, rfl, hI1, r, rfl⟩ := hpo
  obtain ⟨th, V, wr, cu, dn, -, -, hm⟩ := hI1.k305 (k := 305) (by decide) (by decide)
  refine bv_istore 361 rfl C d_L_law_359 (by decide) ?_
  refine bv_aload_n 362 rfl C d_L_law_361 rfl ?_
  refine bv_aload_n 363 rfl C d_L_law_362 rfl ?_
  refine bv_iload 365 rfl C d_L_law_363 rfl ?_
  refine bv_iconst (v := nI 1) 366 rfl C d_L_law_365 (by decide) ?_
  refine bv_iadd 367 rfl C d_L_law_366 ?_
  refine bv_sld (10*t+1) 368 rfl C hX (nI_add _ _) (by omega) (by omega) d_L_law_367 ?_
  refine bv_call (rest := []) 371 rfl C d_L_law_368 (j_M_complete (dd := dd) hI1 (x := (xs (10*t+1)))) i_M_complete t1_8 (fun H locs ls hP => bs_V (av := [.int (xs (10*t+1))]) 305 C i_M_complete t3_235 t3_236 t3_237 (by decide) rfl hm rfl (by decide) rfl rfl d_L_law_368 H locs ls hP) ⟨by first | decide | omega, by first | decide | omega⟩ (by show _ ≤ 601024; omega) (by show _ ≤ 7293034; omega) (Nat.le_of_ble_eq_true rfl) (fun v ad2 w2 N2 hpo => ?_) (fun x Cn ad' w' N' hth => hth.elim)
  obtain ⟨rfl, rfl, hI2, r2, rfl⟩ := hpo
  refine bv_istore 373 rfl C d_L_law_371 (by decide) ?_
  refine bv_goto 752 C d_L_law_373 (by decide) ?_
  refine bv_wk [(0, .ref b), (1, .ref (ad 0)), (2, .ref (ad 305)), (3, .ref (ad 323)), (4, .int (nI (10 * t)))] ⟨rfl, rfl, rfl, rfl, rfl, trivial⟩ ?_
  exact law8_next C ih hI2 (by omega) (by omega)
theorem law8_abort (C : bCx p { frames := 12, cells := 601024, slots := 7293034, locals := 484 } s m args meth c code "BlobStoreLaw" 7 (some .boolean) [] dd A) (hlt : bOff l) (hX : bX b L xs s A) (hL : L ≤ 5120) (ht : 10 * t + 10 ≤ L) (hI : II dd ad w) (ih : ∀ w', II dd ad w' → bV p l e { frames := 12, cells := 601024, slots := 7293034, locals := 484 } s m args below meth c dd A 7 601024 7293034 (fun v _ _ _ => v = some (.int 1)) bNo 23 (bO [(0, .ref b), (1, .ref (ad 0)), (2, .ref (ad 305)), (3, .ref (ad 323)), (4, .int (nI (10 * (t + 1))))]) [] ad w' 324 (324 + 50 * (t + 1)) (3647 + 300 * (t + 1))) : bV p l e { frames := 12, cells := 601024, slots := 7293034, locals := 484 } s m args below meth c dd A 7 601024 7293034 (fun v _ _ _ => v = some (.int 1)) bNo 376 (bO [(0, .ref b), (1, .ref (ad 0)), (2, .ref (ad 305)), (3, .ref (ad 323)), (4, .int (nI (10 * t)))]) [] ad w 324 (324 + 50 * t) (3647 + 300 * t) := by
  refine bv_aload_n 377 rfl C d_L_law_376 rfl ?_
  refine bv_aload_n 378 rfl C d_L_law_377 rfl ?_
  refine bv_iload 380 rfl C d_L_law_378 rfl ?_
  refine bv_iconst (v := nI 1) 381 rfl C d_L_law_380 (by decide) ?_
  refine bv_iadd 382 rfl C d_L_law_381 ?_
  refine bv_sld (10*t+1) 383 rfl C hX (nI_add _ _) (by omega) (by omega) d_L_law_382 ?_
  refine bv_call (rest := []) 386 rfl C d_L_law_383 (j_L_abort (dd := dd) hlt hI (x := (xs (10*t+1)))) i_L_abort t1_0 (fun H locs ls _ => bs_S (av := [.ref (ad 0), .int (xs (10*t+1))]) C i_L_abort t3_28 t3_29 t1_0 (by decide) rfl rfl d_L_law_383 H locs ls) ⟨by first | decide | omega, by first | decide | omega⟩ (by show _ ≤ 601024; omega) (by show _ ≤ 7293034; omega) (Nat.le_of_ble_eq_true rfl) (fun v ad1 w1 N1 hpo => ?_) (fun x Cn ad' w' N' hth => hth.elim)
  obtain ⟨rfl, rfl, hI1, r, rfl⟩ := hpo
  obtain ⟨th, V, wr, cu, dn, -, -, hm⟩ := hI1.k305 (k := 305) (by decide) (by decide)
  refine bv_istore 388 rfl C d_L_law_386 (by decide) ?_
  refine bv_aload_n 389 rfl C d_L_law_388 rfl ?_
  refine bv_aload_n 390 rfl C d_L_law_389 rfl ?_
  refine bv_iload 392 rfl C d_L_law_390 rfl ?_
  refine bv_iconst (v := nI 1) 393 rfl C d_L_law_392 (by decide) ?_
  refine bv_iadd 394 rfl C d_L_law_393 ?_
  refine bv_sld (10*t+1) 395 rfl C hX (nI_add _ _) (by omega) (by omega) d_L_law_394 ?_
  refine bv_call (rest := []) 398 rfl C d_L_law_395 (j_M_abort (dd := dd) hI1 (x := (xs (10*t+1)))) i_M_abort t1_8 (fun H locs ls hP => bs_V (av := [.int (xs (10*t+1))]) 305 C i_M_abort t3_239 t4_0 t4_1 (by decide) rfl hm rfl (by decide) rfl rfl d_L_law_395 H locs ls hP) ⟨by first | decide | omega, by first | decide | omega⟩ (by show _ ≤ 601024; omega) (by show _ ≤ 7293034; omega) (Nat.le_of_ble_eq_true rfl) (fun v ad2 w2 N2 hpo => ?_) (fun x Cn ad' w' N' hth => hth.elim)
  obtain ⟨rfl, rfl, hI2, rfl⟩ := hpo
  refine bv_goto 752 C d_L_law_398 (by decide) ?_
  refine bv_wk [(0, .ref b), (1, .ref (ad 0)), (2, .ref (ad 305)), (3, .ref (ad 323)), (4, .int (nI (10 * t)))] ⟨rfl, rfl, rfl, rfl, rfl, trivial⟩ ?_
  exact law8_next C ih hI2 (by omega) (by omega)
theorem law8_delete (C : bCx p { frames := 12, cells := 601024, slots := 7293034, locals := 484 } s m args meth c code "BlobStoreLaw" 7 (some .boolean) [] dd A) (hlt : bOff l) (hX : bX b L xs s A) (hL : L ≤ 5120) (ht : 10 * t + 10 ≤ L) (hI : II dd ad w) (ih : ∀ w', II dd ad w' → bV p l e { frames := 12, cells := 601024, slots := 7293034, locals := 484 } s m args below meth c dd A 7 601024 7293034 (fun v _ _ _ => v = some (.int 1)) bNo 23 (bO [(0, .ref b), (1, .ref (ad 0)), (2, .ref (ad 305)), (3, .ref (ad 323)), (4, .int (nI (10 * (t + 1))))]) [] ad w' 324 (324 + 50 * (t + 1)) (3647 + 300 * (t + 1))) : bV p l e { frames := 12, cells := 601024, slots := 7293034, locals := 484 } s m args below meth c dd A 7 601024 7293034 (fun v _ _ _ => v = some (.int 1)) bNo 401 (bO [(0, .ref b), (1, .ref (ad 0)), (2, .ref (ad 305)), (3, .ref (ad 323)), (4, .int (nI (10 * t)))]) [] ad w 324 (324 + 50 * t) (3647 + 300 * t) := by
  refine bv_aload_n 402 rfl C d_L_law_401 rfl ?_
  refine bv_aload_n 403 rfl C d_L_law_402 rfl ?_
  refine bv_iload 405 rfl C d_L_law_403 rfl ?_
  refine bv_iconst (v := nI 1) 406 rfl C d_L_law_405 (by decide) ?_
  refine bv_iadd 407 rfl C d_L_law_406 ?_
  refine bv_sld (10*t+1) 408 rfl C hX (nI_add _ _) (by omega) (by omega) d_L_law_407 ?_
  refine bv_aload_n 409 rfl C d_L_law_408 rfl ?_
  refine bv_call (rest := []) 412 rfl C d_L_law_409 (j_L_delete (dd := dd) hlt hI (x := (xs (10*t+1)))) i_L_delete t1_0 (fun H locs ls _ => bs_S (av := [.ref (ad 0), .int (xs (10*t+1)), .ref (ad 323)]) C i_L_delete t3_35 t3_36 t1_0 (by decide) rfl rfl d_L_law_409 H locs ls) ⟨by first | decide | omega, by first | decide | omega⟩ (by show _ ≤ 601024; omega) (by show _ ≤ 7293034; omega) (Nat.le_of_ble_eq_true rfl) (fun v ad1 w1 N1 hpo => ?_) (fun x Cn ad' w' N' hth => hth.elim)
  obtain ⟨rfl, rfl, hI1, r, rfl⟩ := hpo
  obtain ⟨th, V, wr, cu, dn, -, -, hm⟩ := hI1.k305 (k := 305) (by decide) (by decide)
  refine bv_istore 414 rfl C d_L_law_412 (by decide) ?_
  refine bv_aload_n 415 rfl C d_L_law_414 rfl ?_
  refine bv_aload_n 416 rfl C d_L_law_415 rfl ?_
  refine bv_iload 418 rfl C d_L_law_416 rfl ?_
  refine bv_iconst (v := nI 1) 419 rfl C d_L_law_418 (by decide) ?_
  refine bv_iadd 420 rfl C d_L_law_419 ?_
  refine bv_sld (10*t+1) 421 rfl C hX (nI_add _ _) (by omega) (by omega) d_L_law_420 ?_
  refine bv_call (rest := []) 424 rfl C d_L_law_421 (j_M_delete (dd := dd) hI1 (x := (xs (10*t+1)))) i_M_delete t1_8 (fun H locs ls hP => bs_V (av := [.int (xs (10*t+1))]) 305 C i_M_delete t4_3 t4_4 t4_5 (by decide) rfl hm rfl (by decide) rfl rfl d_L_law_421 H locs ls hP) ⟨by first | decide | omega, by first | decide | omega⟩ (by show _ ≤ 601024; omega) (by show _ ≤ 7293034; omega) (Nat.le_of_ble_eq_true rfl) (fun v ad2 w2 N2 hpo => ?_) (fun x Cn ad' w' N' hth => hth.elim)
  obtain ⟨rfl, rfl, hI2, r2, rfl⟩ := hpo
  refine bv_istore 426 rfl C d_L_law_424 (by decide) ?_
  refine bv_goto 752 C d_L_law_426 (by decide) ?_
  refine bv_wk [(0, .ref b), (1, .ref (ad 0)), (2, .ref (ad 305)), (3, .ref (ad 323)), (4, .int (nI (10 * t)))] ⟨rfl, rfl, rfl, rfl, rfl, trivial⟩ ?_
  exact law8_next C ih hI2 (by omega) (by omega)
theorem law8_collect (C : bCx p { frames := 12, cells := 601024, slots := 7293034, locals := 484 } s m args meth c code "BlobStoreLaw" 7 (some .boolean) [] dd A) (hlt : bOff l) (hX : bX b L xs s A) (hL : L ≤ 5120) (ht : 10 * t + 10 ≤ L) (hI : II dd ad w) (ih : ∀ w', II dd ad w' → bV p l e { frames := 12, cells := 601024, slots := 7293034, locals := 484 } s m args below meth c dd A 7 601024 7293034 (fun v _ _ _ => v = some (.int 1)) bNo 23 (bO [(0, .ref b), (1, .ref (ad 0)), (2, .ref (ad 305)), (3, .ref (ad 323)), (4, .int (nI (10 * (t + 1))))]) [] ad w' 324 (324 + 50 * (t + 1)) (3647 + 300 * (t + 1))) : bV p l e { frames := 12, cells := 601024, slots := 7293034, locals := 484 } s m args below meth c dd A 7 601024 7293034 (fun v _ _ _ => v = some (.int 1)) bNo 429 (bO [(0, .ref b), (1, .ref (ad 0)), (2, .ref (ad 305)), (3, .ref (ad 323)), (4, .int (nI (10 * t)))]) [] ad w 324 (324 + 50 * t) (3647 + 300 * t) := by
  refine bv_aload_n 430 rfl C d_L_law_429 rfl ?_
  refine bv_aload_n 431 rfl C d_L_law_430 rfl ?_
  refine bv_call (rest := []) 434 rfl C d_L_law_431 (j_L_collect (dd := dd) hlt hI) i_L_collect t1_0 (fun H locs ls _ => bs_S (av := [.ref (ad 0), .ref (ad 323)]) C i_L_collect t3_42 t3_43 t1_0 (by decide) rfl rfl d_L_law_431 H locs ls) ⟨by first | decide | omega, by first | decide | omega⟩ (by show _ ≤ 601024; omega) (by show _ ≤ 7293034; omega) (Nat.le_of_ble_eq_true rfl) (fun v ad1 w1 N1 hpo => ?_) (fun x Cn ad' w' N' hth => hth.elim)
  obtain ⟨rfl, rfl, hI1, r, rfl⟩ := hpo
  obtain ⟨th, V, wr, cu, dn, -, -, hm⟩ := hI1.k305 (k := 305) (by decide) (by decide)
  refine bv_istore 436 rfl C d_L_law_434 (by decide) ?_
  refine bv_aload_n 437 rfl C d_L_law_436 rfl ?_
  refine bv_call (rest := []) 440 rfl C d_L_law_437 (j_M_collect (dd := dd) hI1) i_M_collect t1_8 (fun H locs ls hP => bs_V (av := []) 305 C i_M_collect t4_11 t4_12 t4_13 (by decide) rfl hm rfl (by decide) rfl rfl d_L_law_437 H locs ls hP) ⟨by first | decide | omega, by first | decide | omega⟩ (by show _ ≤ 601024; omega) (by show _ ≤ 7293034; omega) (Nat.le_of_ble_eq_true rfl) (fun v ad2 w2 N2 hpo => ?_) (fun x Cn ad' w' N' hth => hth.elim)
  obtain ⟨rfl, rfl, hI2, r2, rfl⟩ := hpo
  refine bv_istore 442 rfl C d_L_law_440 (by decide) ?_
  refine bv_goto 752 C d_L_law_442 (by decide) ?_
  refine bv_wk [(0, .ref b), (1, .ref (ad 0)), (2, .ref (ad 305)), (3, .ref (ad 323)), (4, .int (nI (10 * t)))] ⟨rfl, rfl, rfl, rfl, rfl, trivial⟩ ?_
  exact law8_next C ih hI2 (by omega) (by omega)
theorem law8_recover (C : bCx p { frames := 12, cells := 601024, slots := 7293034, locals := 484 } s m args meth c code "BlobStoreLaw" 7 (some .boolean) [] dd A) (hlt : bOff l) (hX : bX b L xs s A) (hL : L ≤ 5120) (ht : 10 * t + 10 ≤ L) (hI : II dd ad w) (ih : ∀ w', II dd ad w' → bV p l e { frames := 12, cells := 601024, slots := 7293034, locals := 484 } s m args below meth c dd A 7 601024 7293034 (fun v _ _ _ => v = some (.int 1)) bNo 23 (bO [(0, .ref b), (1, .ref (ad 0)), (2, .ref (ad 305)), (3, .ref (ad 323)), (4, .int (nI (10 * (t + 1))))]) [] ad w' 324 (324 + 50 * (t + 1)) (3647 + 300 * (t + 1))) : bV p l e { frames := 12, cells := 601024, slots := 7293034, locals := 484 } s m args below meth c dd A 7 601024 7293034 (fun v _ _ _ => v = some (.int 1)) bNo 481 (bO [(0, .ref b), (1, .ref (ad 0)), (2, .ref (ad 305)), (3, .ref (ad 323)), (4, .int (nI (10 * t)))]) [] ad w 324 (324 + 50 * t) (3647 + 300 * t) := by
  refine bv_aload_n 482 rfl C d_L_law_481 rfl ?_
  obtain ⟨V0, hV0, h0⟩ := hI.k0 (k := 0) (by decide) (by decide)
  refine bv_call (rest := []) 485 rfl C d_L_law_482 (j_B_recover (dd := dd) hI) i_B_recover t1_1 (fun H locs ls hP => bs_V (av := []) 0 C i_B_recover t1_177 t1_178 t1_179 (by decide) rfl h0 rfl (by decide) rfl rfl d_L_law_482 H locs ls hP) ⟨by first | decide | omega, by first | decide | omega⟩ (by show _ ≤ 601024; omega) (by show _ ≤ 7293034; omega) (Nat.le_of_ble_eq_true rfl) (fun v ad1 w1 N1 hpo => ?_) (fun x Cn ad' w' N' hth => hth.elim)
  obtain ⟨rfl, rfl, hI1, r, rfl⟩ := hpo
  obtain ⟨th, V, wr, cu, dn, -, -, hm⟩ := hI1.k305 (k := 305) (by decide) (by decide)
  refine bv_pop 486 rfl C d_L_law_485 rfl ?_
  refine bv_aload_n 487 rfl C d_L_law_486 rfl ?_
  refine bv_call (rest := []) 490 rfl C d_L_law_487 (j_M_recover (dd := dd) hI1) i_M_recover t1_8 (fun H locs ls hP => bs_V (av := []) 305 C i_M_recover t4_27 t4_28 t4_29 (by decide) rfl hm rfl (by decide) rfl rfl d_L_law_487 H locs ls hP) ⟨by first | decide | omega, by first | decide | omega⟩ (by show _ ≤ 601024; omega) (by show _ ≤ 7293034; omega) (Nat.le_of_ble_eq_true rfl) (fun v ad2 w2 N2 hpo => ?_) (fun x Cn ad' w' N' hth => hth.elim)
  obtain ⟨rfl, rfl, hI2, r2, rfl⟩ := hpo
  refine bv_pop 491 rfl C d_L_law_490 rfl ?_
  refine bv_goto 752 C d_L_law_491 (by decide) ?_
  refine bv_wk [(0, .ref b), (1, .ref (ad 0)), (2, .ref (ad 305)), (3, .ref (ad 323)), (4, .int (nI (10 * t)))] ⟨rfl, rfl, rfl, rfl, rfl, trivial⟩ ?_
  exact law8_next C ih hI2 (by omega) (by omega)
theorem law8_latest (C : bCx p { frames := 12, cells := 601024, slots := 7293034, locals := 484 } s m args meth c code "BlobStoreLaw" 7 (some .boolean) [] dd A) (hlt : bOff l) (hX : bX b L xs s A) (hL : L ≤ 5120) (ht : 10 * t + 10 ≤ L) (hI : II dd ad w) (ih : ∀ w', II dd ad w' → bV p l e { frames := 12, cells := 601024, slots := 7293034, locals := 484 } s m args below meth c dd A 7 601024 7293034 (fun v _ _ _ => v = some (.int 1)) bNo 23 (bO [(0, .ref b), (1, .ref (ad 0)), (2, .ref (ad 305)), (3, .ref (ad 323)), (4, .int (nI (10 * (t + 1))))]) [] ad w' 324 (324 + 50 * (t + 1)) (3647 + 300 * (t + 1))) : bV p l e { frames := 12, cells := 601024, slots := 7293034, locals := 484 } s m args below meth c dd A 7 601024 7293034 (fun v _ _ _ => v = some (.int 1)) bNo 494 (bO [(0, .ref b), (1, .ref (ad 0)), (2, .ref (ad 305)), (3, .ref (ad 323)), (4, .int (nI (10 * t)))]) [] ad w 324 (324 + 50 * t) (3647 + 300 * t) := by
  refine bv_aload_n 495 rfl C d_L_law_494 rfl ?_
  refine bv_aload_n 496 rfl C d_L_law_495 rfl ?_
  refine bv_iload 498 rfl C d_L_law_496 rfl ?_
  refine bv_iconst (v := nI 1) 499 rfl C d_L_law_498 (by decide) ?_
  refine bv_iadd 500 rfl C d_L_law_499 ?_
  refine bv_sld (10*t+1) 501 rfl C hX (nI_add _ _) (by omega) (by omega) d_L_law_500 ?_
  refine bv_aload_n 502 rfl C d_L_law_501 rfl ?_
  refine bv_iload 504 rfl C d_L_law_502 rfl ?_
  refine bv_iconst (v := nI 2) 505 rfl C d_L_law_504 (by decide) ?_
  refine bv_iadd 506 rfl C d_L_law_505 ?_
  refine bv_sld (10*t+2) 507 rfl C hX (nI_add _ _) (by omega) (by omega) d_L_law_506 ?_
  obtain ⟨V0, hV0, h0⟩ := hI.k0 (k := 0) (by decide) (by decide)
  refine bv_call (rest := []) 510 rfl C d_L_law_507 (j_B_latest (dd := dd) hI (x := (xs (10*t+1))) (y := (xs (10*t+2)))) i_B_latest t1_1 (fun H locs ls hP => bs_V (av := [.int (xs (10*t+1)), .int (xs (10*t+2))]) 0 C i_B_latest t1_185 t1_186 t1_187 (by decide) rfl h0 rfl (by decide) rfl rfl d_L_law_507 H locs ls hP) ⟨by first | decide | omega, by first | decide | omega⟩ (by show _ ≤ 601024; omega) (by show _ ≤ 7293034; omega) (Nat.le_of_ble_eq_true rfl) (fun v ad1 w1 N1 hpo => ?_) (fun x Cn ad' w' N' hth => hth.elim)
  obtain ⟨rfl, rfl, rfl, r, rfl⟩ := hpo
  obtain ⟨th, V, wr, cu, dn, -, -, hm⟩ := hI.k305 (k := 305) (by decide) (by decide)
  refine bv_pop 511 rfl C d_L_law_510 rfl ?_
  refine bv_aload_n 512 rfl C d_L_law_511 rfl ?_
  refine bv_aload_n 513 rfl C d_L_law_512 rfl ?_
  refine bv_iload 515 rfl C d_L_law_513 rfl ?_
  refine bv_iconst (v := nI 1) 516 rfl C d_L_law_515 (by decide) ?_
  refine bv_iadd 517 rfl C d_L_law_516 ?_
  refine bv_sld (10*t+1) 518 rfl C hX (nI_add _ _) (by omega) (by omega) d_L_law_517 ?_
  refine bv_aload_n 519 rfl C d_L_law_518 rfl ?_
  refine bv_iload 521 rfl C d_L_law_519 rfl ?_
  refine bv_iconst (v := nI 2) 522 rfl C d_L_law_521 (by decide) ?_
  refine bv_iadd 523 rfl C d_L_law_522 ?_
  refine bv_sld (10*t+2) 524 rfl C hX (nI_add _ _) (by omega) (by omega) d_L_law_523 ?_
  refine bv_call (rest := []) 527 rfl C d_L_law_524 (j_M_latest (dd := dd) hI (x := (xs (10*t+1))) (y := (xs (10*t+2)))) i_M_latest t1_8 (fun H locs ls hP => bs_V (av := [.int (xs (10*t+1)), .int (xs (10*t+2))]) 305 C i_M_latest t4_31 t4_32 t4_33 (by decide) rfl hm rfl (by decide) rfl rfl d_L_law_524 H locs ls hP) ⟨by first | decide | omega, by first | decide | omega⟩ (by show _ ≤ 601024; omega) (by show _ ≤ 7293034; omega) (Nat.le_of_ble_eq_true rfl) (fun v ad2 w2 N2 hpo => ?_) (fun x Cn ad' w' N' hth => hth.elim)
  obtain ⟨rfl, rfl, hI2, r2, rfl⟩ := hpo
  refine bv_pop 528 rfl C d_L_law_527 rfl ?_
  refine bv_goto 752 C d_L_law_528 (by decide) ?_
  refine bv_wk [(0, .ref b), (1, .ref (ad 0)), (2, .ref (ad 305)), (3, .ref (ad 323)), (4, .int (nI (10 * t)))] ⟨rfl, rfl, rfl, rfl, rfl, trivial⟩ ?_
  exact law8_next C ih hI2 (by omega) (by omega)
theorem law8_size (C : bCx p { frames := 12, cells := 601024, slots := 7293034, locals := 484 } s m args meth c code "BlobStoreLaw" 7 (some .boolean) [] dd A) (hlt : bOff l) (hX : bX b L xs s A) (hL : L ≤ 5120) (ht : 10 * t + 10 ≤ L) (hI : II dd ad w) (ih : ∀ w', II dd ad w' → bV p l e { frames := 12, cells := 601024, slots := 7293034, locals := 484 } s m args below meth c dd A 7 601024 7293034 (fun v _ _ _ => v = some (.int 1)) bNo 23 (bO [(0, .ref b), (1, .ref (ad 0)), (2, .ref (ad 305)), (3, .ref (ad 323)), (4, .int (nI (10 * (t + 1))))]) [] ad w' 324 (324 + 50 * (t + 1)) (3647 + 300 * (t + 1))) : bV p l e { frames := 12, cells := 601024, slots := 7293034, locals := 484 } s m args below meth c dd A 7 601024 7293034 (fun v _ _ _ => v = some (.int 1)) bNo 531 (bO [(0, .ref b), (1, .ref (ad 0)), (2, .ref (ad 305)), (3, .ref (ad 323)), (4, .int (nI (10 * t)))]) [] ad w 324 (324 + 50 * t) (3647 + 300 * t) := by
  refine bv_aload_n 532 rfl C d_L_law_531 rfl ?_
  refine bv_aload_n 533 rfl C d_L_law_532 rfl ?_
  refine bv_iload 535 rfl C d_L_law_533 rfl ?_
  refine bv_iconst (v := nI 1) 536 rfl C d_L_law_535 (by decide) ?_
  refine bv_iadd 537 rfl C d_L_law_536 ?_
  refine bv_sld (10*t+1) 538 rfl C hX (nI_add _ _) (by omega) (by omega) d_L_law_537 ?_
  obtain ⟨V0, hV0, h0⟩ := hI.k0 (k := 0) (by decide) (by decide)
  refine bv_call (rest := []) 541 rfl C d_L_law_538 (j_B_size (dd := dd) hI (x := (xs (10*t+1)))) i_B_size t1_1 (fun H locs ls hP => bs_V (av := [.int (xs (10*t+1))]) 0 C i_B_size t1_189 t1_190 t1_191 (by decide) rfl h0 rfl (by decide) rfl rfl d_L_law_538 H locs ls hP) ⟨by first | decide | omega, by first | decide | omega⟩ (by show _ ≤ 601024; omega) (by show _ ≤ 7293034; omega) (Nat.le_of_ble_eq_true rfl) (fun v ad1 w1 N1 hpo => ?_) (fun x Cn ad' w' N' hth => hth.elim)
  obtain ⟨rfl, rfl, rfl, r, rfl⟩ := hpo
  obtain ⟨th, V, wr, cu, dn, -, -, hm⟩ := hI.k305 (k := 305) (by decide) (by decide)
  refine bv_pop 542 rfl C d_L_law_541 rfl ?_
  refine bv_aload_n 543 rfl C d_L_law_542 rfl ?_
  refine bv_aload_n 544 rfl C d_L_law_543 rfl ?_
  refine bv_iload 546 rfl C d_L_law_544 rfl ?_
  refine bv_iconst (v := nI 1) 547 rfl C d_L_law_546 (by decide) ?_
  refine bv_iadd 548 rfl C d_L_law_547 ?_
  refine bv_sld (10*t+1) 549 rfl C hX (nI_add _ _) (by omega) (by omega) d_L_law_548 ?_
  refine bv_call (rest := []) 552 rfl C d_L_law_549 (j_M_size (dd := dd) hI (x := (xs (10*t+1)))) i_M_size t1_8 (fun H locs ls hP => bs_V (av := [.int (xs (10*t+1))]) 305 C i_M_size t4_35 t4_36 t4_37 (by decide) rfl hm rfl (by decide) rfl rfl d_L_law_549 H locs ls hP) ⟨by first | decide | omega, by first | decide | omega⟩ (by show _ ≤ 601024; omega) (by show _ ≤ 7293034; omega) (Nat.le_of_ble_eq_true rfl) (fun v ad2 w2 N2 hpo => ?_) (fun x Cn ad' w' N' hth => hth.elim)
  obtain ⟨rfl, rfl, hI2, r2, rfl⟩ := hpo
  refine bv_pop 553 rfl C d_L_law_552 rfl ?_
  refine bv_goto 752 C d_L_law_553 (by decide) ?_
  refine bv_wk [(0, .ref b), (1, .ref (ad 0)), (2, .ref (ad 305)), (3, .ref (ad 323)), (4, .int (nI (10 * t)))] ⟨rfl, rfl, rfl, rfl, rfl, trivial⟩ ?_
  exact law8_next C ih hI2 (by omega) (by omega)
theorem law8_byteAt (C : bCx p { frames := 12, cells := 601024, slots := 7293034, locals := 484 } s m args meth c code "BlobStoreLaw" 7 (some .boolean) [] dd A) (hlt : bOff l) (hX : bX b L xs s A) (hL : L ≤ 5120) (ht : 10 * t + 10 ≤ L) (hI : II dd ad w) (ih : ∀ w', II dd ad w' → bV p l e { frames := 12, cells := 601024, slots := 7293034, locals := 484 } s m args below meth c dd A 7 601024 7293034 (fun v _ _ _ => v = some (.int 1)) bNo 23 (bO [(0, .ref b), (1, .ref (ad 0)), (2, .ref (ad 305)), (3, .ref (ad 323)), (4, .int (nI (10 * (t + 1))))]) [] ad w' 324 (324 + 50 * (t + 1)) (3647 + 300 * (t + 1))) : bV p l e { frames := 12, cells := 601024, slots := 7293034, locals := 484 } s m args below meth c dd A 7 601024 7293034 (fun v _ _ _ => v = some (.int 1)) bNo 556 (bO [(0, .ref b), (1, .ref (ad 0)), (2, .ref (ad 305)), (3, .ref (ad 323)), (4, .int (nI (10 * t)))]) [] ad w 324 (324 + 50 * t) (3647 + 300 * t) := by
  refine bv_aload_n 557 rfl C d_L_law_556 rfl ?_
  refine bv_aload_n 558 rfl C d_L_law_557 rfl ?_
  refine bv_iload 560 rfl C d_L_law_558 rfl ?_
  refine bv_iconst (v := nI 1) 561 rfl C d_L_law_560 (by decide) ?_
  refine bv_iadd 562 rfl C d_L_law_561 ?_
  refine bv_sld (10*t+1) 563 rfl C hX (nI_add _ _) (by omega) (by omega) d_L_law_562 ?_
  refine bv_aload_n 564 rfl C d_L_law_563 rfl ?_
  refine bv_iload 566 rfl C d_L_law_564 rfl ?_
  refine bv_iconst (v := nI 2) 567 rfl C d_L_law_566 (by decide) ?_
  refine bv_iadd 568 rfl C d_L_law_567 ?_
  refine bv_sld (10*t+2) 569 rfl C hX (nI_add _ _) (by omega) (by omega) d_L_law_568 ?_
  obtain ⟨V0, hV0, h0⟩ := hI.k0 (k := 0) (by decide) (by decide)
  refine bv_call (rest := []) 572 rfl C d_L_law_569 (j_B_byteAt (dd := dd) hI (x := (xs (10*t+1))) (y := (xs (10*t+2)))) i_B_byteAt t1_1 (fun H locs ls hP => bs_V (av := [.int (xs (10*t+1)), .int (xs (10*t+2))]) 0 C i_B_byteAt t1_197 t1_198 t1_199 (by decide) rfl h0 rfl (by decide) rfl rfl d_L_law_569 H locs ls hP) ⟨by first | decide | omega, by first | decide | omega⟩ (by show _ ≤ 601024; omega) (by show _ ≤ 7293034; omega) (Nat.le_of_ble_eq_true rfl) (fun v ad1 w1 N1 hpo => ?_) (fun x Cn ad' w' N' hth => hth.elim)
  obtain ⟨rfl, rfl, rfl, r, rfl⟩ := hpo
  obtain ⟨th, V, wr, cu, dn, -, -, hm⟩ := hI.k305 (k := 305) (by decide) (by decide)
  refine bv_pop 573 rfl C d_L_law_572 rfl ?_
  refine bv_aload_n 574 rfl C d_L_law_573 rfl ?_
  refine bv_aload_n 575 rfl C d_L_law_574 rfl ?_
  refine bv_iload 577 rfl C d_L_law_575 rfl ?_
  refine bv_iconst (v := nI 1) 578 rfl C d_L_law_577 (by decide) ?_
  refine bv_iadd 579 rfl C d_L_law_578 ?_
  refine bv_sld (10*t+1) 580 rfl C hX (nI_add _ _) (by omega) (by omega) d_L_law_579 ?_
  refine bv_aload_n 581 rfl C d_L_law_580 rfl ?_
  refine bv_iload 583 rfl C d_L_law_581 rfl ?_
  refine bv_iconst (v := nI 2) 584 rfl C d_L_law_583 (by decide) ?_
  refine bv_iadd 585 rfl C d_L_law_584 ?_
  refine bv_sld (10*t+2) 586 rfl C hX (nI_add _ _) (by omega) (by omega) d_L_law_585 ?_
  refine bv_call (rest := []) 589 rfl C d_L_law_586 (j_M_byteAt (dd := dd) hI (x := (xs (10*t+1))) (y := (xs (10*t+2)))) i_M_byteAt t1_8 (fun H locs ls hP => bs_V (av := [.int (xs (10*t+1)), .int (xs (10*t+2))]) 305 C i_M_byteAt t4_39 t4_40 t4_41 (by decide) rfl hm rfl (by decide) rfl rfl d_L_law_586 H locs ls hP) ⟨by first | decide | omega, by first | decide | omega⟩ (by show _ ≤ 601024; omega) (by show _ ≤ 7293034; omega) (Nat.le_of_ble_eq_true rfl) (fun v ad2 w2 N2 hpo => ?_) (fun x Cn ad' w' N' hth => hth.elim)
  obtain ⟨rfl, rfl, hI2, r2, rfl⟩ := hpo
  refine bv_pop 590 rfl C d_L_law_589 rfl ?_
  refine bv_goto 752 C d_L_law_590 (by decide) ?_
  refine bv_wk [(0, .ref b), (1, .ref (ad 0)), (2, .ref (ad 305)), (3, .ref (ad 323)), (4, .int (nI (10 * t)))] ⟨rfl, rfl, rfl, rfl, rfl, trivial⟩ ?_
  exact law8_next C ih hI2 (by omega) (by omega)
theorem law8_address (C : bCx p { frames := 12, cells := 601024, slots := 7293034, locals := 484 } s m args meth c code "BlobStoreLaw" 7 (some .boolean) [] dd A) (hlt : bOff l) (hX : bX b L xs s A) (hL : L ≤ 5120) (ht : 10 * t + 10 ≤ L) (hI : II dd ad w) (ih : ∀ w', II dd ad w' → bV p l e { frames := 12, cells := 601024, slots := 7293034, locals := 484 } s m args below meth c dd A 7 601024 7293034 (fun v _ _ _ => v = some (.int 1)) bNo 23 (bO [(0, .ref b), (1, .ref (ad 0)), (2, .ref (ad 305)), (3, .ref (ad 323)), (4, .int (nI (10 * (t + 1))))]) [] ad w' 324 (324 + 50 * (t + 1)) (3647 + 300 * (t + 1))) : bV p l e { frames := 12, cells := 601024, slots := 7293034, locals := 484 } s m args below meth c dd A 7 601024 7293034 (fun v _ _ _ => v = some (.int 1)) bNo 593 (bO [(0, .ref b), (1, .ref (ad 0)), (2, .ref (ad 305)), (3, .ref (ad 323)), (4, .int (nI (10 * t)))]) [] ad w 324 (324 + 50 * t) (3647 + 300 * t) := by
  refine bv_aload_n 594 rfl C d_L_law_593 rfl ?_
  refine bv_aload_n 595 rfl C d_L_law_594 rfl ?_
  refine bv_iload 597 rfl C d_L_law_595 rfl ?_
  refine bv_iconst (v := nI 1) 598 rfl C d_L_law_597 (by decide) ?_
  refine bv_iadd 599 rfl C d_L_law_598 ?_
  refine bv_sld (10*t+1) 600 rfl C hX (nI_add _ _) (by omega) (by omega) d_L_law_599 ?_
  refine bv_aload_n 601 rfl C d_L_law_600 rfl ?_
  refine bv_iload 603 rfl C d_L_law_601 rfl ?_
  refine bv_iconst (v := nI 2) 604 rfl C d_L_law_603 (by decide) ?_
  refine bv_iadd 605 rfl C d_L_law_604 ?_
  refine bv_sld (10*t+2) 606 rfl C hX (nI_add _ _) (by omega) (by omega) d_L_law_605 ?_
  refine bv_aload_n 607 rfl C d_L_law_606 rfl ?_
  refine bv_call (rest := []) 610 rfl C d_L_law_607 (j_L_address (dd := dd) hlt hI (x := (xs (10*t+1))) (y := (xs (10*t+2)))) i_L_address t1_0 (fun H locs ls _ => bs_S (av := [.ref (ad 0), .int (xs (10*t+1)), .int (xs (10*t+2)), .ref (ad 323)]) C i_L_address t3_65 t3_66 t1_0 (by decide) rfl rfl d_L_law_607 H locs ls) ⟨by first | decide | omega, by first | decide | omega⟩ (by show _ ≤ 601024; omega) (by show _ ≤ 7293034; omega) (Nat.le_of_ble_eq_true rfl) (fun v ad1 w1 N1 hpo => ?_) (fun x Cn ad' w' N' hth => hth.elim)
  obtain ⟨rfl, rfl, hI1, r, rfl⟩ := hpo
  obtain ⟨th, V, wr, cu, dn, -, -, hm⟩ := hI1.k305 (k := 305) (by decide) (by decide)
  refine bv_istore 612 rfl C d_L_law_610 (by decide) ?_
  refine bv_aload_n 613 rfl C d_L_law_612 rfl ?_
  refine bv_aload_n 614 rfl C d_L_law_613 rfl ?_
  refine bv_iload 616 rfl C d_L_law_614 rfl ?_
  refine bv_iconst (v := nI 1) 617 rfl C d_L_law_616 (by decide) ?_
  refine bv_iadd 618 rfl C d_L_law_617 ?_
  refine bv_sld (10*t+1) 619 rfl C hX (nI_add _ _) (by omega) (by omega) d_L_law_618 ?_
  refine bv_aload_n 620 rfl C d_L_law_619 rfl ?_
  refine bv_iload 622 rfl C d_L_law_620 rfl ?_
  refine bv_iconst (v := nI 2) 623 rfl C d_L_law_622 (by decide) ?_
  refine bv_iadd 624 rfl C d_L_law_623 ?_
  refine bv_sld (10*t+2) 625 rfl C hX (nI_add _ _) (by omega) (by omega) d_L_law_624 ?_
  refine bv_call (rest := []) 628 rfl C d_L_law_625 (j_M_address (dd := dd) hI1 (x := (xs (10*t+1))) (y := (xs (10*t+2)))) i_M_address t1_8 (fun H locs ls hP => bs_V (av := [.int (xs (10*t+1)), .int (xs (10*t+2))]) 305 C i_M_address t4_43 t4_44 t4_45 (by decide) rfl hm rfl (by decide) rfl rfl d_L_law_625 H locs ls hP) ⟨by first | decide | omega, by first | decide | omega⟩ (by show _ ≤ 601024; omega) (by show _ ≤ 7293034; omega) (Nat.le_of_ble_eq_true rfl) (fun v ad2 w2 N2 hpo => ?_) (fun x Cn ad' w' N' hth => hth.elim)
  obtain ⟨rfl, rfl, hI2, r2, rfl⟩ := hpo
  refine bv_istore 630 rfl C d_L_law_628 (by decide) ?_
  refine bv_goto 752 C d_L_law_630 (by decide) ?_
  refine bv_wk [(0, .ref b), (1, .ref (ad 0)), (2, .ref (ad 305)), (3, .ref (ad 323)), (4, .int (nI (10 * t)))] ⟨rfl, rfl, rfl, rfl, rfl, trivial⟩ ?_
  exact law8_next C ih hI2 (by omega) (by omega)
theorem law8_needed (C : bCx p { frames := 12, cells := 601024, slots := 7293034, locals := 484 } s m args meth c code "BlobStoreLaw" 7 (some .boolean) [] dd A) (hlt : bOff l) (hX : bX b L xs s A) (hL : L ≤ 5120) (ht : 10 * t + 10 ≤ L) (hI : II dd ad w) (ih : ∀ w', II dd ad w' → bV p l e { frames := 12, cells := 601024, slots := 7293034, locals := 484 } s m args below meth c dd A 7 601024 7293034 (fun v _ _ _ => v = some (.int 1)) bNo 23 (bO [(0, .ref b), (1, .ref (ad 0)), (2, .ref (ad 305)), (3, .ref (ad 323)), (4, .int (nI (10 * (t + 1))))]) [] ad w' 324 (324 + 50 * (t + 1)) (3647 + 300 * (t + 1))) : bV p l e { frames := 12, cells := 601024, slots := 7293034, locals := 484 } s m args below meth c dd A 7 601024 7293034 (fun v _ _ _ => v = some (.int 1)) bNo 633 (bO [(0, .ref b), (1, .ref (ad 0)), (2, .ref (ad 305)), (3, .ref (ad 323)), (4, .int (nI (10 * t)))]) [] ad w 324 (324 + 50 * t) (3647 + 300 * t) := by
  refine bv_aload_n 634 rfl C d_L_law_633 rfl ?_
  refine bv_aload_n 635 rfl C d_L_law_634 rfl ?_
  refine bv_iload 637 rfl C d_L_law_635 rfl ?_
  refine bv_iconst (v := nI 1) 638 rfl C d_L_law_637 (by decide) ?_
  refine bv_iadd 639 rfl C d_L_law_638 ?_
  refine bv_sld (10*t+1) 640 rfl C hX (nI_add _ _) (by omega) (by omega) d_L_law_639 ?_
  obtain ⟨V0, hV0, h0⟩ := hI.k0 (k := 0) (by decide) (by decide)
  refine bv_call (rest := []) 643 rfl C d_L_law_640 (j_B_needed (dd := dd) hI (x := (xs (10*t+1)))) i_B_needed t1_1 (fun H locs ls hP => bs_V (av := [.int (xs (10*t+1))]) 0 C i_B_needed t1_205 t1_206 t1_207 (by decide) rfl h0 rfl (by decide) rfl rfl d_L_law_640 H locs ls hP) ⟨by first | decide | omega, by first | decide | omega⟩ (by show _ ≤ 601024; omega) (by show _ ≤ 7293034; omega) (Nat.le_of_ble_eq_true rfl) (fun v ad1 w1 N1 hpo => ?_) (fun x Cn ad' w' N' hth => hth.elim)
  obtain ⟨rfl, rfl, hI1, r, rfl⟩ := hpo
  obtain ⟨th, V, wr, cu, dn, -, -, hm⟩ := hI1.k305 (k := 305) (by decide) (by decide)
  refine bv_pop 644 rfl C d_L_law_643 rfl ?_
  refine bv_aload_n 645 rfl C d_L_law_644 rfl ?_
  refine bv_aload_n 646 rfl C d_L_law_645 rfl ?_
  refine bv_iload 648 rfl C d_L_law_646 rfl ?_
  refine bv_iconst (v := nI 1) 649 rfl C d_L_law_648 (by decide) ?_
  refine bv_iadd 650 rfl C d_L_law_649 ?_
  refine bv_sld (10*t+1) 651 rfl C hX (nI_add _ _) (by omega) (by omega) d_L_law_650 ?_
  refine bv_call (rest := []) 654 rfl C d_L_law_651 (j_M_needed (dd := dd) hI1 (x := (xs (10*t+1)))) i_M_needed t1_8 (fun H locs ls hP => bs_V (av := [.int (xs (10*t+1))]) 305 C i_M_needed t4_58 t4_59 t4_60 (by decide) rfl hm rfl (by decide) rfl rfl d_L_law_651 H locs ls hP) ⟨by first | decide | omega, by first | decide | omega⟩ (by show _ ≤ 601024; omega) (by show _ ≤ 7293034; omega) (Nat.le_of_ble_eq_true rfl) (fun v ad2 w2 N2 hpo => ?_) (fun x Cn ad' w' N' hth => hth.elim)
  obtain ⟨rfl, rfl, hI2, r2, rfl⟩ := hpo
  refine bv_pop 655 rfl C d_L_law_654 rfl ?_
  refine bv_goto 752 C d_L_law_655 (by decide) ?_
  refine bv_wk [(0, .ref b), (1, .ref (ad 0)), (2, .ref (ad 305)), (3, .ref (ad 323)), (4, .int (nI (10 * t)))] ⟨rfl, rfl, rfl, rfl, rfl, trivial⟩ ?_
  exact law8_next C ih hI2 (by omega) (by omega)
theorem law8_slotOf (C : bCx p { frames := 12, cells := 601024, slots := 7293034, locals := 484 } s m args meth c code "BlobStoreLaw" 7 (some .boolean) [] dd A) (hlt : bOff l) (hX : bX b L xs s A) (hL : L ≤ 5120) (ht : 10 * t + 10 ≤ L) (hI : II dd ad w) (ih : ∀ w', II dd ad w' → bV p l e { frames := 12, cells := 601024, slots := 7293034, locals := 484 } s m args below meth c dd A 7 601024 7293034 (fun v _ _ _ => v = some (.int 1)) bNo 23 (bO [(0, .ref b), (1, .ref (ad 0)), (2, .ref (ad 305)), (3, .ref (ad 323)), (4, .int (nI (10 * (t + 1))))]) [] ad w' 324 (324 + 50 * (t + 1)) (3647 + 300 * (t + 1))) : bV p l e { frames := 12, cells := 601024, slots := 7293034, locals := 484 } s m args below meth c dd A 7 601024 7293034 (fun v _ _ _ => v = some (.int 1)) bNo 658 (bO [(0, .ref b), (1, .ref (ad 0)), (2, .ref (ad 305)), (3, .ref (ad 323)), (4, .int (nI (10 * t)))]) [] ad w 324 (324 + 50 * t) (3647 + 300 * t) := by
  refine bv_aload_n 659 rfl C d_L_law_658 rfl ?_
  refine bv_aload_n 660 rfl C d_L_law_659 rfl ?_
  refine bv_iload 662 rfl C d_L_law_660 rfl ?_
  refine bv_iconst (v := nI 1) 663 rfl C d_L_law_662 (by decide) ?_
  refine bv_iadd 664 rfl C d_L_law_663 ?_
  refine bv_sld (10*t+1) 665 rfl C hX (nI_add _ _) (by omega) (by omega) d_L_law_664 ?_
  refine bv_aload_n 666 rfl C d_L_law_665 rfl ?_
  refine bv_iload 668 rfl C d_L_law_666 rfl ?_
  refine bv_iconst (v := nI 2) 669 rfl C d_L_law_668 (by decide) ?_
  refine bv_iadd 670 rfl C d_L_law_669 ?_
  refine bv_sld (10*t+2) 671 rfl C hX (nI_add _ _) (by omega) (by omega) d_L_law_670 ?_
  refine bv_i2l 672 rfl C d_L_law_671 rfl ?_
  refine bv_bipush (v := nI 32) 674 rfl C d_L_law_672 (by decide) ?_
  refine bv_lshl 675 rfl C d_L_law_674 rfl ?_
  refine bv_aload_n 676 rfl C d_L_law_675 rfl ?_
  refine bv_iload 678 rfl C d_L_law_676 rfl ?_
  refine bv_iconst (v := nI 3) 679 rfl C d_L_law_678 (by decide) ?_
  refine bv_iadd 680 rfl C d_L_law_679 ?_
  refine bv_sld (10*t+3) 681 rfl C hX (nI_add _ _) (by omega) (by omega) d_L_law_680 ?_
  refine bv_i2l 682 rfl C d_L_law_681 rfl ?_
  refine bv_ldc2 685 rfl C t4_70 d_L_law_682 ?_
  refine bv_land 686 rfl C d_L_law_685 ?_
  refine bv_lor 687 rfl C d_L_law_686 ?_
  refine bv_topl (fun u0 _ => ?_)
  obtain ⟨V0, hV0, h0⟩ := hI.k0 (k := 0) (by decide) (by decide)
  refine bv_call (rest := []) 690 rfl C d_L_law_687 (j_B_slotOf (dd := dd) hI (n := (xs (10*t+1))) (x := u0)) i_B_slotOf t1_1 (fun H locs ls hP => bs_V (av := [.int (xs (10*t+1)), .long u0]) 0 C i_B_slotOf t1_233 t1_234 t1_235 (by decide) rfl h0 rfl (by decide) rfl rfl d_L_law_687 H locs ls hP) ⟨by first | decide | omega, by first | decide | omega⟩ (by show _ ≤ 601024; omega) (by show _ ≤ 7293034; omega) (Nat.le_of_ble_eq_true rfl) (fun v ad1 w1 N1 hpo => ?_) (fun x Cn ad' w' N' hth => hth.elim)
  obtain ⟨rfl, rfl, hI1, r, rfl⟩ := hpo
  obtain ⟨th, V, wr, cu, dn, -, -, hm⟩ := hI1.k305 (k := 305) (by decide) (by decide)
  refine bv_pop 691 rfl C d_L_law_690 rfl ?_
  refine bv_aload_n 692 rfl C d_L_law_691 rfl ?_
  refine bv_aload_n 693 rfl C d_L_law_692 rfl ?_
  refine bv_iload 695 rfl C d_L_law_693 rfl ?_
  refine bv_iconst (v := nI 1) 696 rfl C d_L_law_695 (by decide) ?_
  refine bv_iadd 697 rfl C d_L_law_696 ?_
  refine bv_sld (10*t+1) 698 rfl C hX (nI_add _ _) (by omega) (by omega) d_L_law_697 ?_
  refine bv_aload_n 699 rfl C d_L_law_698 rfl ?_
  refine bv_iload 701 rfl C d_L_law_699 rfl ?_
  refine bv_iconst (v := nI 2) 702 rfl C d_L_law_701 (by decide) ?_
  refine bv_iadd 703 rfl C d_L_law_702 ?_
  refine bv_sld (10*t+2) 704 rfl C hX (nI_add _ _) (by omega) (by omega) d_L_law_703 ?_
  refine bv_i2l 705 rfl C d_L_law_704 rfl ?_
  refine bv_bipush (v := nI 32) 707 rfl C d_L_law_705 (by decide) ?_
  refine bv_lshl 708 rfl C d_L_law_707 rfl ?_
  refine bv_aload_n 709 rfl C d_L_law_708 rfl ?_
  refine bv_iload 711 rfl C d_L_law_709 rfl ?_
  refine bv_iconst (v := nI 3) 712 rfl C d_L_law_711 (by decide) ?_
  refine bv_iadd 713 rfl C d_L_law_712 ?_
  refine bv_sld (10*t+3) 714 rfl C hX (nI_add _ _) (by omega) (by omega) d_L_law_713 ?_
  refine bv_i2l 715 rfl C d_L_law_714 rfl ?_
  refine bv_ldc2 718 rfl C t4_70 d_L_law_715 ?_
  refine bv_land 719 rfl C d_L_law_718 ?_
  refine bv_lor 720 rfl C d_L_law_719 ?_
  refine bv_topl (fun v0 _ => ?_)
  refine bv_call (rest := []) 723 rfl C d_L_law_720 (j_M_slotOf (dd := dd) hI1 (n := (xs (10*t+1))) (x := v0)) i_M_slotOf t1_8 (fun H locs ls hP => bs_V (av := [.int (xs (10*t+1)), .long v0]) 305 C i_M_slotOf t4_62 t4_63 t4_64 (by decide) rfl hm rfl (by decide) rfl rfl d_L_law_720 H locs ls hP) ⟨by first | decide | omega, by first | decide | omega⟩ (by show _ ≤ 601024; omega) (by show _ ≤ 7293034; omega) (Nat.le_of_ble_eq_true rfl) (fun v ad2 w2 N2 hpo => ?_) (fun x Cn ad' w' N' hth => hth.elim)
  obtain ⟨rfl, rfl, hI2, r2, rfl⟩ := hpo
  refine bv_pop 724 rfl C d_L_law_723 rfl ?_
  refine bv_goto 752 C d_L_law_724 (by decide) ?_
  refine bv_wk [(0, .ref b), (1, .ref (ad 0)), (2, .ref (ad 305)), (3, .ref (ad 323)), (4, .int (nI (10 * t)))] ⟨rfl, rfl, rfl, rfl, rfl, trivial⟩ ?_
  exact law8_next C ih hI2 (by omega) (by omega)
theorem law8_state (C : bCx p { frames := 12, cells := 601024, slots := 7293034, locals := 484 } s m args meth c code "BlobStoreLaw" 7 (some .boolean) [] dd A) (hlt : bOff l) (hX : bX b L xs s A) (hL : L ≤ 5120) (ht : 10 * t + 10 ≤ L) (hI : II dd ad w) (ih : ∀ w', II dd ad w' → bV p l e { frames := 12, cells := 601024, slots := 7293034, locals := 484 } s m args below meth c dd A 7 601024 7293034 (fun v _ _ _ => v = some (.int 1)) bNo 23 (bO [(0, .ref b), (1, .ref (ad 0)), (2, .ref (ad 305)), (3, .ref (ad 323)), (4, .int (nI (10 * (t + 1))))]) [] ad w' 324 (324 + 50 * (t + 1)) (3647 + 300 * (t + 1))) : bV p l e { frames := 12, cells := 601024, slots := 7293034, locals := 484 } s m args below meth c dd A 7 601024 7293034 (fun v _ _ _ => v = some (.int 1)) bNo 727 (bO [(0, .ref b), (1, .ref (ad 0)), (2, .ref (ad 305)), (3, .ref (ad 323)), (4, .int (nI (10 * t)))]) [] ad w 324 (324 + 50 * t) (3647 + 300 * t) := by
  refine bv_aload_n 728 rfl C d_L_law_727 rfl ?_
  refine bv_aload_n 729 rfl C d_L_law_728 rfl ?_
  refine bv_iload 731 rfl C d_L_law_729 rfl ?_
  refine bv_iconst (v := nI 1) 732 rfl C d_L_law_731 (by decide) ?_
  refine bv_iadd 733 rfl C d_L_law_732 ?_
  refine bv_sld (10*t+1) 734 rfl C hX (nI_add _ _) (by omega) (by omega) d_L_law_733 ?_
  obtain ⟨V0, hV0, h0⟩ := hI.k0 (k := 0) (by decide) (by decide)
  refine bv_call (rest := []) 737 rfl C d_L_law_734 (j_B_state (dd := dd) hI (x := (xs (10*t+1)))) i_B_state t1_1 (fun H locs ls hP => bs_V (av := [.int (xs (10*t+1))]) 0 C i_B_state t2_35 t2_36 t2_37 (by decide) rfl h0 rfl (by decide) rfl rfl d_L_law_734 H locs ls hP) ⟨by first | decide | omega, by first | decide | omega⟩ (by show _ ≤ 601024; omega) (by show _ ≤ 7293034; omega) (Nat.le_of_ble_eq_true rfl) (fun v ad1 w1 N1 hpo => ?_) (fun x Cn ad' w' N' hth => hth.elim)
  obtain ⟨rfl, rfl, rfl, r, rfl⟩ := hpo
  obtain ⟨th, V, wr, cu, dn, -, -, hm⟩ := hI.k305 (k := 305) (by decide) (by decide)
  refine bv_pop 738 rfl C d_L_law_737 rfl ?_
  refine bv_aload_n 739 rfl C d_L_law_738 rfl ?_
  refine bv_aload_n 740 rfl C d_L_law_739 rfl ?_
  refine bv_iload 742 rfl C d_L_law_740 rfl ?_
  refine bv_iconst (v := nI 1) 743 rfl C d_L_law_742 (by decide) ?_
  refine bv_iadd 744 rfl C d_L_law_743 ?_
  refine bv_sld (10*t+1) 745 rfl C hX (nI_add _ _) (by omega) (by omega) d_L_law_744 ?_
  refine bv_call (rest := []) 748 rfl C d_L_law_745 (j_M_state (dd := dd) hI (x := (xs (10*t+1)))) i_M_state t1_8 (fun H locs ls hP => bs_V (av := [.int (xs (10*t+1))]) 305 C i_M_state t4_66 t4_67 t4_68 (by decide) rfl hm rfl (by decide) rfl rfl d_L_law_745 H locs ls hP) ⟨by first | decide | omega, by first | decide | omega⟩ (by show _ ≤ 601024; omega) (by show _ ≤ 7293034; omega) (Nat.le_of_ble_eq_true rfl) (fun v ad2 w2 N2 hpo => ?_) (fun x Cn ad' w' N' hth => hth.elim)
  obtain ⟨rfl, rfl, hI2, r2, rfl⟩ := hpo
  refine bv_pop 749 rfl C d_L_law_748 rfl ?_
  refine bv_goto 752 C d_L_law_749 (by decide) ?_
  refine bv_wk [(0, .ref b), (1, .ref (ad 0)), (2, .ref (ad 305)), (3, .ref (ad 323)), (4, .int (nI (10 * t)))] ⟨rfl, rfl, rfl, rfl, rfl, trivial⟩ ?_
  exact law8_next C ih hI2 (by omega) (by omega)
theorem law8_cutAfter (C : bCx p { frames := 12, cells := 601024, slots := 7293034, locals := 484 } s m args meth c code "BlobStoreLaw" 7 (some .boolean) [] dd A) (hlt : bOff l) (hX : bX b L xs s A) (hL : L ≤ 5120) (ht : 10 * t + 10 ≤ L) (hI : II dd ad w) (ih : ∀ w', II dd ad w' → bV p l e { frames := 12, cells := 601024, slots := 7293034, locals := 484 } s m args below meth c dd A 7 601024 7293034 (fun v _ _ _ => v = some (.int 1)) bNo 23 (bO [(0, .ref b), (1, .ref (ad 0)), (2, .ref (ad 305)), (3, .ref (ad 323)), (4, .int (nI (10 * (t + 1))))]) [] ad w' 324 (324 + 50 * (t + 1)) (3647 + 300 * (t + 1))) : bV p l e { frames := 12, cells := 601024, slots := 7293034, locals := 484 } s m args below meth c dd A 7 601024 7293034 (fun v _ _ _ => v = some (.int 1)) bNo 445 (bO [(0, .ref b), (1, .ref (ad 0)), (2, .ref (ad 305)), (3, .ref (ad 323)), (4, .int (nI (10 * t)))]) [] ad w 324 (324 + 50 * t) (3647 + 300 * t) := by
  refine bv_aload_n 446 rfl C d_L_law_445 rfl ?_
  refine bv_aload_n 447 rfl C d_L_law_446 rfl ?_
  refine bv_iload 449 rfl C d_L_law_447 rfl ?_
  refine bv_iconst (v := nI 1) 450 rfl C d_L_law_449 (by decide) ?_
  refine bv_iadd 451 rfl C d_L_law_450 ?_
  refine bv_sld (10*t+1) 452 rfl C hX (nI_add _ _) (by omega) (by omega) d_L_law_451 ?_
  refine bv_call (rest := []) 455 rfl C d_L_law_452 (j_L_cutAfter (dd := dd) hlt hI (x := (xs (10*t+1)))) i_L_cutAfter t1_0 (fun H locs ls _ => bs_S (av := [.ref (ad 0), .int (xs (10*t+1))]) C i_L_cutAfter t3_53 t3_54 t1_0 (by decide) rfl rfl d_L_law_452 H locs ls) ⟨by first | decide | omega, by first | decide | omega⟩ (by show _ ≤ 601024; omega) (by show _ ≤ 7293034; omega) (Nat.le_of_ble_eq_true rfl) (fun v ad1 w1 N1 hpo => ?_) (fun x Cn ad' w' N' hth => hth.elim)
  obtain ⟨rfl, rfl, hI1, r, rfl, hr⟩ := hpo
  obtain ⟨th, V, wr, cu, dn, hV, hdn, hm⟩ := hI1.k305 (k := 305) (by decide) (by decide)
  refine bv_istore 457 rfl C d_L_law_455 (by decide) ?_
  refine bv_aload_n 458 rfl C d_L_law_457 rfl ?_
  refine bv_aload_n 459 rfl C d_L_law_458 rfl ?_
  refine bv_iload 461 rfl C d_L_law_459 rfl ?_
  refine bv_iconst (v := nI 1) 462 rfl C d_L_law_461 (by decide) ?_
  refine bv_iadd 463 rfl C d_L_law_462 ?_
  refine bv_sld (10*t+1) 464 rfl C hX (nI_add _ _) (by omega) (by omega) d_L_law_463 ?_
  refine bv_call (rest := []) 467 rfl C d_L_law_464 (ct_M_cutAfter (dd := dd) (by decide) hm (x := (xs (10*t+1)))) i_M_cutAfter t1_8 (fun H locs ls hP => bs_V (av := [.int (xs (10*t+1))]) 305 C i_M_cutAfter t4_23 t4_24 t4_25 (by decide) rfl hm rfl (by decide) rfl rfl d_L_law_464 H locs ls hP) ⟨by first | decide | omega, by first | decide | omega⟩ (by show _ ≤ 601024; omega) (by show _ ≤ 7293034; omega) (Nat.le_of_ble_eq_true rfl) (fun v ad2 w2 N2 hpo => ?_) (fun x Cn ad' w' N' hth => hth.elim)
  obtain ⟨rfl, rfl, rfl, hv⟩ := hpo
  obtain ⟨ve', wr', cu', dn', hI2, hm2⟩ : ∃ ve' wr' cu' dn', II dd ad w2 ∧ w2 305 = mO ad r ve' wr' cu' dn' := by
    rcases hv with ⟨h, rfl⟩ | ⟨h, rfl⟩
    · rcases hr with ⟨rfl, h'⟩ | ⟨rfl, h'⟩
      · exact ⟨_, _, _, _, hI1.up ((sh_305 (by decide)).mpr ⟨_, _, _, _, _, hV, hdn, rfl⟩), va_up_self _ _ _⟩
      · exact absurd ((bIn_iff _ (by decide)).mp h) h'
    · rcases hr with ⟨rfl, h'⟩ | ⟨rfl, h'⟩
      · exact absurd ((bIn_iff _ (by decide)).mpr h') h
      · exact ⟨_, _, _, _, hI1.up ((sh_305 (by decide)).mpr ⟨_, _, _, _, _, hV, hdn, rfl⟩), va_up_self _ _ _⟩
  refine bv_aload_n 468 rfl C d_L_law_467 rfl ?_
  refine bv_call (rest := []) 471 rfl C d_L_law_468 (ct_M_thrown (dd := dd) (by decide) hm2) i_M_thrown t1_8 (fun H locs ls hP => bs_V (av := []) 305 C i_M_thrown t3_176 t3_177 t3_178 (by decide) rfl hm2 rfl (by decide) rfl rfl d_L_law_468 H locs ls hP) ⟨by first | decide | omega, by first | decide | omega⟩ (by show _ ≤ 601024; omega) (by show _ ≤ 7293034; omega) (Nat.le_of_ble_eq_true rfl) (fun v ad4 w4 N4 hpo => ?_) (fun x Cn ad' w' N' hth => hth.elim)
  obtain ⟨rfl, rfl, rfl, rfl⟩ := hpo
  refine bv_iload 473 rfl C d_L_law_471 rfl ?_
  refine bv_icmp_eq 478 476 rfl C d_L_law_473 (by decide) (fun h => ?_) (fun h => absurd rfl h)
  refine bv_goto 752 C d_L_law_478 (by decide) ?_
  refine bv_wk [(0, .ref b), (1, .ref (ad 0)), (2, .ref (ad 305)), (3, .ref (ad 323)), (4, .int (nI (10 * t)))] ⟨rfl, rfl, rfl, rfl, rfl, trivial⟩ ?_
  exact law8_next C ih hI2 (by omega) (by omega)
/-- one call of a script -/
theorem law8_call (C : bCx p { frames := 12, cells := 601024, slots := 7293034, locals := 484 } s m args meth c code "BlobStoreLaw" 7 (some .boolean) [] dd A) (hlt : bOff l) (hX : bX b L xs s A) (hL : L ≤ 5120) (ht : 10 * t + 10 ≤ L) (hI : II dd ad w) (ih : ∀ w', II dd ad w' → bV p l e { frames := 12, cells := 601024, slots := 7293034, locals := 484 } s m args below meth c dd A 7 601024 7293034 (fun v _ _ _ => v = some (.int 1)) bNo 23 (bO [(0, .ref b), (1, .ref (ad 0)), (2, .ref (ad 305)), (3, .ref (ad 323)), (4, .int (nI (10 * (t + 1))))]) [] ad w' 324 (324 + 50 * (t + 1)) (3647 + 300 * (t + 1))) : bV p l e { frames := 12, cells := 601024, slots := 7293034, locals := 484 } s m args below meth c dd A 7 601024 7293034 (fun v _ _ _ => v = some (.int 1)) bNo 23 (bO [(0, .ref b), (1, .ref (ad 0)), (2, .ref (ad 305)), (3, .ref (ad 323)), (4, .int (nI (10 * t)))]) [] ad w 324 (324 + 50 * t) (3647 + 300 * t) := by
  refine bv_iload 25 rfl C d_L_law_23 rfl ?_
  refine bv_aload_n 26 rfl C d_L_law_25 rfl ?_
  refine bv_slen 27 rfl C hX d_L_law_26 ?_
  refine bv_bipush (v := nI 10) 29 rfl C d_L_law_27 (by decide) ?_
  refine bv_isub 30 rfl C d_L_law_29 ?_
  refine bv_seti (nI (L-10)) (pk_sub (show 10 ≤ L by omega)) ?_
  refine bv_icmp_gt 758 33 rfl C d_L_law_30 (by decide) (fun h => absurd h (nI_nlt (show 10 * t ≤ L - 10 by omega) (by omega))) (fun h => ?_)
  refine bv_aload_n 34 rfl C d_L_law_33 rfl ?_
  refine bv_iload 36 rfl C d_L_law_34 rfl ?_
  refine bv_sld (10*t) 37 rfl C hX rfl (by omega) (by omega) d_L_law_36 ?_
  refine bv_bipush (v := nI 15) 39 rfl C d_L_law_37 (by decide) ?_
  refine bv_iand 40 rfl C d_L_law_39 ?_
  obtain ⟨j, hj, hje⟩ := pk_andE (xs (10*t)) (m := nI 15) 4 (by decide)
  refine bv_seti (nI j) hje ?_
  rcases (show j = 0 ∨ j = 1 ∨ j = 2 ∨ j = 3 ∨ j = 4 ∨ j = 5 ∨ j = 6 ∨ j = 7 ∨ j = 8 ∨ j = 9 ∨ j = 10 ∨ j = 11 ∨ j = 12 ∨ j = 13 ∨ j = 14 ∨ j = 15 by omega) with rfl | rfl | rfl | rfl | rfl | rfl | rfl | rfl | rfl | rfl | rfl | rfl | rfl | rfl | rfl | rfl
  · refine bv_tabIn 116 C d_L_law_40 (by decide) (by decide) rfl (by decide) ?_
    exact law8_begin C hlt hX hL ht hI ih
  · refine bv_tabIn 156 C d_L_law_40 (by decide) (by decide) rfl (by decide) ?_
    exact law8_part C hlt hX hL ht hI ih
  · refine bv_tabIn 348 C d_L_law_40 (by decide) (by decide) rfl (by decide) ?_
    exact law8_complete C hlt hX hL ht hI ih
  · refine bv_tabIn 376 C d_L_law_40 (by decide) (by decide) rfl (by decide) ?_
    exact law8_abort C hlt hX hL ht hI ih
  · refine bv_tabIn 401 C d_L_law_40 (by decide) (by decide) rfl (by decide) ?_
    exact law8_delete C hlt hX hL ht hI ih
  · refine bv_tabIn 429 C d_L_law_40 (by decide) (by decide) rfl (by decide) ?_
    exact law8_collect C hlt hX hL ht hI ih
  · refine bv_tabIn 445 C d_L_law_40 (by decide) (by decide) rfl (by decide) ?_
    exact law8_cutAfter C hlt hX hL ht hI ih
  · refine bv_tabIn 481 C d_L_law_40 (by decide) (by decide) rfl (by decide) ?_
    exact law8_recover C hlt hX hL ht hI ih
  · refine bv_tabIn 494 C d_L_law_40 (by decide) (by decide) rfl (by decide) ?_
    exact law8_latest C hlt hX hL ht hI ih
  · refine bv_tabIn 531 C d_L_law_40 (by decide) (by decide) rfl (by decide) ?_
    exact law8_size C hlt hX hL ht hI ih
  · refine bv_tabIn 556 C d_L_law_40 (by decide) (by decide) rfl (by decide) ?_
    exact law8_byteAt C hlt hX hL ht hI ih
  · refine bv_tabIn 593 C d_L_law_40 (by decide) (by decide) rfl (by decide) ?_
    exact law8_address C hlt hX hL ht hI ih
  · refine bv_tabIn 633 C d_L_law_40 (by decide) (by decide) rfl (by decide) ?_
    exact law8_needed C hlt hX hL ht hI ih
  · refine bv_tabIn 658 C d_L_law_40 (by decide) (by decide) rfl (by decide) ?_
    exact law8_slotOf C hlt hX hL ht hI ih
  · refine bv_tabIn 727 C d_L_law_40 (by decide) (by decide) rfl (by decide) ?_
    exact law8_state C hlt hX hL ht hI ih
  · refine bv_tabOut 752 C d_L_law_40 (Or.inr (by decide)) (by decide) ?_
    exact law8_next C ih hI (by omega) (by omega)
/-- the law from its call number t on -/
theorem law8_loop (C : bCx p { frames := 12, cells := 601024, slots := 7293034, locals := 484 } s m args meth c code "BlobStoreLaw" 7 (some .boolean) [] dd A) (hlt : bOff l) (hL : L ≤ 5120) (hX : bX b L xs s A) : ∀ (n t : Nat) (w : Nat → va_E), L / 10 = t + n → II dd ad w → bV p l e { frames := 12, cells := 601024, slots := 7293034, locals := 484 } s m args below meth c dd A 7 601024 7293034 (fun v _ _ _ => v = some (.int 1)) bNo 23 (bO [(0, .ref b), (1, .ref (ad 0)), (2, .ref (ad 305)), (3, .ref (ad 323)), (4, .int (nI (10 * t)))]) [] ad w 324 (324 + 50 * t) (3647 + 300 * t) := by
  intro n
  induction n with
  | zero =>
    intro t w hn hI
    refine bv_iload 25 rfl C d_L_law_23 rfl ?_
    refine bv_aload_n 26 rfl C d_L_law_25 rfl ?_
    refine bv_slen 27 rfl C hX d_L_law_26 ?_
    refine bv_bipush (v := nI 10) 29 rfl C d_L_law_27 (by decide) ?_
    refine bv_isub 30 rfl C d_L_law_29 ?_
    by_cases h10 : L < 10
    · refine bv_icmp_gt 758 33 rfl C d_L_law_30 (by decide) (fun h => ?_) (fun h => absurd (show nI L - nI 10 < nI (10 * t) from by rw [show 10 * t = 0 by omega]; exact pk_sneg (by decide) h10) h)
      refine bv_iconst (v := 1) 759 rfl C d_L_law_758 (by decide) ?_
      exact bv_zreturn C rfl (Or.inr rfl) d_L_law_759 (by omega) (by omega) rfl
    · refine bv_seti (nI (L-10)) (pk_sub (show 10 ≤ L by omega)) ?_
      refine bv_icmp_gt 758 33 rfl C d_L_law_30 (by decide) (fun h => ?_) (fun h => absurd (nI_lt (show L - 10 < 10 * t by omega) (by omega)) h)
      refine bv_iconst (v := 1) 759 rfl C d_L_law_758 (by decide) ?_
      exact bv_zreturn C rfl (Or.inr rfl) d_L_law_759 (by omega) (by omega) rfl
  | succ n ihn =>
    intro t w hn hI
    exact law8_call C hlt hX hL (by omega) hI (fun w' hI' => ihn (t + 1) w' (by omega) hI')
theorem law8_start (C : bCx p { frames := 12, cells := 601024, slots := 7293034, locals := 484 } s m args meth c code "BlobStoreLaw" 7 (some .boolean) [] dd A) (hlt : bOff l) (hL : L ≤ 5120) (hX : bX b L xs s A) : bV p l e { frames := 12, cells := 601024, slots := 7293034, locals := 484 } s m args below meth c dd A 7 601024 7293034 (fun v _ _ _ => v = some (.int 1)) bNo 0 (bO [(0, .ref b)]) [] ad w 0 0 0 := by
  refine bv_new (fs := [.null,.null,.null,.null,.null,.int 0,.null,.null,.null,.null]) 3 rfl C k_B t1_20 t1_21 t1_1 (by intro j hj; rcases (show j = 0 ∨ j = 1 ∨ j = 2 ∨ j = 3 ∨ j = 4 ∨ j = 5 ∨ j = 6 ∨ j = 7 ∨ j = 8 ∨ j = 9 by omega) with rfl | rfl | rfl | rfl | rfl | rfl | rfl | rfl | rfl | rfl <;> rfl) (by decide) (by decide) d_L_law_0 (fun ad1 had1 => ?_)
  obtain ⟨q0, e0⟩ : ∃ q, ad1 0 = q := ⟨_, rfl⟩
  rw [e0]
  refine bv_dup 4 rfl C d_L_law_3 rfl ?_
  refine bv_call (rest := [.ref q0]) 7 rfl C d_L_law_4 (ct_B_init (dd := dd) (a := q0) e0 (va_up_self _ _ _)) i_B_init t1_1 (fun H locs ls _ => bs_I (av := []) C t1_24 t1_22 t1_23 rfl (by decide) rfl rfl d_L_law_4 H locs ls) ⟨by first | decide | omega, by first | decide | omega⟩ (by decide) (by decide) (Nat.le_of_ble_eq_true rfl) (fun v ad2 w2 N2 hpo => ?_) (fun x Cn ad' w' N' hth => hth.elim)
  obtain ⟨rfl, rfl, h20, hB⟩ := hpo
  refine bv_astore_n 8 rfl C d_L_law_7 (by decide) ?_
  refine bv_new (fs := [.int 0,.null,.null,.null,.null,.null,.null,.null,.int 0,.null,.null,.null,.null,.null,.int 0,.int 0,.int 0,.null,.null,.null,.null,.null]) 11 rfl C k_M t3_89 t3_90 t1_8 (by intro j hj; rcases (show j = 0 ∨ j = 1 ∨ j = 2 ∨ j = 3 ∨ j = 4 ∨ j = 5 ∨ j = 6 ∨ j = 7 ∨ j = 8 ∨ j = 9 ∨ j = 10 ∨ j = 11 ∨ j = 12 ∨ j = 13 ∨ j = 14 ∨ j = 15 ∨ j = 16 ∨ j = 17 ∨ j = 18 ∨ j = 19 ∨ j = 20 ∨ j = 21 by omega) with rfl | rfl | rfl | rfl | rfl | rfl | rfl | rfl | rfl | rfl | rfl | rfl | rfl | rfl | rfl | rfl | rfl | rfl | rfl | rfl | rfl | rfl <;> rfl) (by decide) (by decide) d_L_law_8 (fun ad3 had3 => ?_)
  obtain ⟨q1, e1⟩ : ∃ q, ad3 305 = q := ⟨_, rfl⟩
  rw [e1]
  refine bv_dup 12 rfl C d_L_law_11 rfl ?_
  refine bv_call (rest := [.ref q1]) 15 rfl C d_L_law_12 (ct_M_init (dd := dd) (a := q1) e1 (va_up_self _ _ _)) i_M_init t1_8 (fun H locs ls _ => bs_I (av := []) C t3_93 t3_91 t3_92 rfl (by decide) rfl rfl d_L_law_12 H locs ls) ⟨by first | decide | omega, by first | decide | omega⟩ (by decide) (by decide) (Nat.le_of_ble_eq_true rfl) (fun v ad4 w4 N4 hpo => ?_) (fun x Cn ad' w' N' hth => hth.elim)
  obtain ⟨rfl, rfl, h4a, h4w, hM⟩ := hpo
  refine bv_astore_n 16 rfl C d_L_law_15 (by decide) ?_
  refine bv_iconst (v := nI 1) 17 rfl C d_L_law_16 (by decide) ?_
  refine bv_newa (atype := .long) (ty := .long) (a0 := (1, .inr (.inl (fun _ => 0)))) 1 1 19 rfl C rfl rfl (by intro Cn h; cases h) t3_175 (fun cA => rfl) rfl (by decide) (by decide) (by decide) (by decide) d_L_law_17 (fun ad5 had5 => ?_)
  refine bv_astore_n 20 rfl C d_L_law_19 (by decide) ?_
  refine bv_iconst (v := nI 0) 21 rfl C d_L_law_20 (by decide) ?_
  refine bv_istore 23 rfl C d_L_law_21 (by decide) ?_
  have hB5 : FB dd ad5 (va_up w4 323 (aL dd 1 (fun _ => 0))) := hB.to (fun i hi => (had5 i (by omega)).trans ((h4a i (by omega)).trans (had3 i hi))) (fun i hi => (va_up_ne _ _ (by omega)).trans ((h4w i hi).trans (va_up_ne _ _ (by omega))))
  have hM5 : FM dd ad5 (va_up w4 323 (aL dd 1 (fun _ => 0))) := hM.to (fun i hi => had5 i hi) (fun i _ hi => va_up_ne _ _ (by omega))
  have f0 : q0 = ad5 0 := ((had5 0 (by decide)).trans ((h4a 0 (by decide)).trans ((had3 0 (by decide)).trans (h20.trans e0)))).symm
  have f1 : q1 = ad5 305 := ((had5 305 (by decide)).trans ((h4a 305 (by decide)).trans e1)).symm
  refine bv_wk [(0, .ref b), (1, .ref (ad5 0)), (2, .ref (ad5 305)), (3, .ref (ad5 323)), (4, .int (nI 0))] ⟨rfl, congrArg (fun z => some (Value.ref z)) f0, congrArg (fun z => some (Value.ref z)) f1, rfl, rfl, trivial⟩ ?_
  exact law8_loop C hlt hL hX (L / 10) 0 _ (Nat.zero_add _).symm (II.of hB5 hM5 (va_up_self _ _ _))
end bEight

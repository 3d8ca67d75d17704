section bOne
variable {p : Program} {l : Launch} {e : Env} {s : State} {m : MethodId} {args : Array Value} {below : List Frame} {meth : Method} {c : Code} {dd : bD} {A : Nat → Prop} {ad : Nat → Nat} {w : Nat → va_E} {b : Nat} {xs : Nat → Int32}
/-- the law behind its first call: no second one is left -/
theorem law1_end {N cells slots : Nat} (C : bCx p { frames := 12, cells := 600002, slots := 7302232, locals := 484 } s m args meth c code "BlobStoreLaw" 7 (some .boolean) [] dd A) (hX : bX b 10 xs s A) (hc : cells ≤ 600002) (hs : slots ≤ 7302232) : bV p l e { frames := 12, cells := 600002, slots := 7302232, locals := 484 } s m args below meth c dd A 7 600002 7302232 (fun v _ _ _ => v = some (.int 1)) bNo 938 (bO [(0, .ref b), (4, .int (nI 0))]) [] ad w N cells slots := by
  refine bv_iinc (v := (nI 10)) 941 rfl C d_L_law_938 rfl (by decide) (by decide) ?_
  refine bv_goto 23 C d_L_law_941 (by decide) ?_
  refine bv_iload 25 rfl C d_L_law_23 rfl ?_
  refine bv_aload_n 26 rfl C d_L_law_25 rfl ?_
  refine bv_slen 27 rfl C hX d_L_law_26 ?_
  refine bv_bipush (v := nI 10) 29 rfl C d_L_law_27 (by decide) ?_
  refine bv_isub 30 rfl C d_L_law_29 ?_
  refine bv_icmp_gt 944 33 rfl C d_L_law_30 (by decide) (fun h => ?_) (fun h => absurd (show nI 10 - nI 10 < nI 10 by decide) h)
  refine bv_iconst (v := 1) 945 rfl C d_L_law_944 (by decide) ?_
  exact bv_zreturn C rfl (Or.inr rfl) d_L_law_945 hc hs rfl
theorem law1_begin {g0 : Nat → Int64} (C : bCx p { frames := 12, cells := 600002, slots := 7302232, locals := 484 } s m args meth c code "BlobStoreLaw" 7 (some .boolean) [] dd A) (hlt : bOff l) (hX : bX b 10 xs s A) (hB : FB dd ad w) (hM : FM dd ad w) (ho : w 323 = aL dd 1 g0) : bV p l e { frames := 12, cells := 600002, slots := 7302232, locals := 484 } s m args below meth c dd A 7 600002 7302232 (fun v _ _ _ => v = some (.int 1)) bNo 116 (bO [(0, .ref b), (1, .ref (ad 0)), (2, .ref (ad 305)), (3, .ref (ad 323)), (4, .int (nI 0))]) [] ad w 324 324 3647 := by
  refine bv_aload_n 117 rfl C d_L_law_116 rfl ?_
  refine bv_aload_n 118 rfl C d_L_law_117 rfl ?_
  refine bv_iload 120 rfl C d_L_law_118 rfl ?_
  refine bv_iconst (v := nI 1) 121 rfl C d_L_law_120 (by decide) ?_
  refine bv_iadd 122 rfl C d_L_law_121 ?_
  refine bv_sld 1 123 rfl C hX (by decide) (by decide) (by decide) d_L_law_122 ?_
  refine bv_aload_n 124 rfl C d_L_law_123 rfl ?_
  refine bv_iload 126 rfl C d_L_law_124 rfl ?_
  refine bv_iconst (v := nI 2) 127 rfl C d_L_law_126 (by decide) ?_
  refine bv_iadd 128 rfl C d_L_law_127 ?_
  refine bv_sld 2 129 rfl C hX (by decide) (by decide) (by decide) d_L_law_128 ?_
  refine bv_aload_n 130 rfl C d_L_law_129 rfl ?_
  refine bv_call (rest := []) 133 rfl C d_L_law_130 (ct_L_begin (dd := dd) hlt (by decide) hB ho (b := xs 1) (q := xs 2)) i_L_begin t1_0 (fun H locs ls _ => bs_S (av := [.ref (ad 0), .int (xs 1), .int (xs 2), .ref (ad 323)]) C i_L_begin t2_51 t2_52 t1_0 (by decide) rfl rfl d_L_law_130 H locs ls) ⟨by first | decide | omega, by first | decide | omega⟩ (by decide) (by decide) (Nat.le_of_ble_eq_true rfl) (fun v ad1 w1 N1 hpo => ?_) (fun x Cn ad' w' N' hth => hth.elim)
  obtain ⟨rfl, rfl, hk, r, rfl, hr⟩ := hpo
  refine bv_istore 135 rfl C d_L_law_133 (by decide) ?_
  refine bv_aload_n 136 rfl C d_L_law_135 rfl ?_
  refine bv_aload_n 137 rfl C d_L_law_136 rfl ?_
  refine bv_iload 139 rfl C d_L_law_137 rfl ?_
  refine bv_iconst (v := nI 1) 140 rfl C d_L_law_139 (by decide) ?_
  refine bv_iadd 141 rfl C d_L_law_140 ?_
  refine bv_sld 1 142 rfl C hX (by decide) (by decide) (by decide) d_L_law_141 ?_
  refine bv_aload_n 143 rfl C d_L_law_142 rfl ?_
  refine bv_iload 145 rfl C d_L_law_143 rfl ?_
  refine bv_iconst (v := nI 2) 146 rfl C d_L_law_145 (by decide) ?_
  refine bv_iadd 147 rfl C d_L_law_146 ?_
  refine bv_sld 2 148 rfl C hX (by decide) (by decide) (by decide) d_L_law_147 ?_
  refine bv_call (rest := []) 151 rfl C d_L_law_148 (bK.frameN (N0 := 323) (N := 324) (by decide) (ct_M_begin (dd := dd) (by decide) ((hk 305 (by decide) (by decide)).trans hM.1) ((hk 308 (by decide) (by decide)).trans hM.2.2.2.1) ((hk 309 (by decide) (by decide)).trans hM.2.2.2.2.1) ((hk 310 (by decide) (by decide)).trans hM.2.2.2.2.2.1) ((hk 311 (by decide) (by decide)).trans hM.2.2.2.2.2.2.1) (x := xs 1) (y := xs 2)) (fun _ _ _ _ h => ⟨h.1, h.2.1⟩)) i_M_begin t1_8 (fun H locs ls hP => bs_V (av := [.int (xs 1), .int (xs 2)]) 305 C i_M_begin t3_180 t3_181 t3_182 (by decide) rfl ((hk 305 (by decide) (by decide)).trans hM.1) rfl (by decide) rfl rfl d_L_law_148 H locs ls hP) ⟨by first | decide | omega, by first | decide | omega⟩ (by decide) (by decide) (Nat.le_of_ble_eq_true rfl) (fun v ad2 w2 N2 hpo => ?_) (fun x Cn ad' w' N' hth => hth.elim)
  obtain ⟨rfl, rfl, hk2, w3, ⟨-, -, th, ve, wr, cu, dn, hm3, hv⟩, hk3⟩ := hpo
  have hm2 := (hk3 305 (by decide)).trans hm3
  rcases hr with ⟨rfl, hok, g, hg, hg0⟩ | ⟨rfl, hok, g, hg⟩
  · rcases hv with ⟨rfl, rfl, -⟩ | ⟨-, -, hno⟩
    · refine bv_istore 153 rfl C d_L_law_151 (by decide) ?_
      refine bv_aload_n 154 rfl C d_L_law_153 rfl ?_
      refine bv_call (rest := []) 157 rfl C d_L_law_154 (ct_M_thrown (dd := dd) (by decide) hm2) i_M_thrown t1_8 (fun H locs ls hP => bs_V (av := []) 305 C i_M_thrown t3_176 t3_177 t3_178 (by decide) rfl hm2 rfl (by decide) rfl rfl d_L_law_154 H locs ls hP) ⟨by first | decide | omega, by first | decide | omega⟩ (by decide) (by decide) (Nat.le_of_ble_eq_true rfl) (fun v ad4 w4 N4 hpo => ?_) (fun x Cn ad' w' N' hth => hth.elim)
      obtain ⟨rfl, rfl, rfl, rfl⟩ := hpo
      refine bv_iload 159 rfl C d_L_law_157 rfl ?_
      refine bv_icmp_eq 164 162 rfl C d_L_law_159 (by decide) (fun h => ?_) (fun h => absurd rfl h)
      refine bv_iload 166 rfl C d_L_law_164 rfl ?_
      refine bv_if_ne 181 169 rfl C d_L_law_166 (by decide) (fun h => absurd (show nI 0 = 0 by decide) h) (fun h => ?_)
      refine bv_aload_n 170 rfl C d_L_law_169 rfl ?_
      refine bv_iconst (v := nI 0) 171 rfl C d_L_law_170 (by decide) ?_
      refine bv_lald 323 0 172 rfl C (by decide) rfl ((hk2 323 (by decide)).trans hg) rfl (by decide) (by decide) d_L_law_171 ?_
      refine bv_iload 174 rfl C d_L_law_172 rfl ?_
      refine bv_i2l 175 rfl C d_L_law_174 rfl ?_
      refine bv_lcmp 176 rfl C d_L_law_175 ?_
      refine bv_seti 0 (by rw [hg0]; decide) ?_
      refine bv_if_eq 181 179 rfl C d_L_law_176 (by decide) (fun h => ?_) (fun h => absurd rfl h)
      refine bv_goto 938 C d_L_law_181 (by decide) ?_
      refine bv_wk [(0, .ref b), (4, .int (nI 0))] ⟨rfl, rfl, trivial⟩ ?_
      exact law1_end C hX (by decide) (by decide)
    · exact absurd ((okB_iff _ _).mp hok) hno
  · rcases hv with ⟨-, -, hyes⟩ | ⟨rfl, ⟨r, rfl⟩, -⟩
    · exact absurd ((okB_iff _ _).mpr hyes) hok
    · refine bv_istore 153 rfl C d_L_law_151 (by decide) ?_
      refine bv_aload_n 154 rfl C d_L_law_153 rfl ?_
      refine bv_call (rest := []) 157 rfl C d_L_law_154 (ct_M_thrown (dd := dd) (by decide) hm2) i_M_thrown t1_8 (fun H locs ls hP => bs_V (av := []) 305 C i_M_thrown t3_176 t3_177 t3_178 (by decide) rfl hm2 rfl (by decide) rfl rfl d_L_law_154 H locs ls hP) ⟨by first | decide | omega, by first | decide | omega⟩ (by decide) (by decide) (Nat.le_of_ble_eq_true rfl) (fun v ad4 w4 N4 hpo => ?_) (fun x Cn ad' w' N' hth => hth.elim)
      obtain ⟨rfl, rfl, rfl, rfl⟩ := hpo
      refine bv_iload 159 rfl C d_L_law_157 rfl ?_
      refine bv_icmp_eq 164 162 rfl C d_L_law_159 (by decide) (fun h => ?_) (fun h => absurd rfl h)
      refine bv_iload 166 rfl C d_L_law_164 rfl ?_
      refine bv_if_ne 181 169 rfl C d_L_law_166 (by decide) (fun h => ?_) (fun h => absurd h (show ¬ nI 2 = 0 by decide))
      refine bv_goto 938 C d_L_law_181 (by decide) ?_
      refine bv_wk [(0, .ref b), (4, .int (nI 0))] ⟨rfl, rfl, trivial⟩ ?_
      exact law1_end C hX (by decide) (by decide)
theorem law1_part {g0 : Nat → Int64} (C : bCx p { frames := 12, cells := 600002, slots := 7302232, locals := 484 } s m args meth c code "BlobStoreLaw" 7 (some .boolean) [] dd A) (hlt : bOff l) (hX : bX b 10 xs s A) (hB : FB dd ad w) (hM : FM dd ad w) (ho : w 323 = aL dd 1 g0) : bV p l e { frames := 12, cells := 600002, slots := 7302232, locals := 484 } s m args below meth c dd A 7 600002 7302232 (fun v _ _ _ => v = some (.int 1)) bNo 184 (bO [(0, .ref b), (1, .ref (ad 0)), (2, .ref (ad 305)), (3, .ref (ad 323)), (4, .int (nI 0))]) [] ad w 324 324 3647 := by
  refine bv_aload_n 185 rfl C d_L_law_184 rfl ?_
  refine bv_aload_n 186 rfl C d_L_law_185 rfl ?_
  refine bv_iload 188 rfl C d_L_law_186 rfl ?_
  refine bv_iconst (v := nI 1) 189 rfl C d_L_law_188 (by decide) ?_
  refine bv_iadd 190 rfl C d_L_law_189 ?_
  refine bv_sld 1 191 rfl C hX (by decide) (by decide) (by decide) d_L_law_190 ?_
  refine bv_aload_n 192 rfl C d_L_law_191 rfl ?_
  refine bv_iload 194 rfl C d_L_law_192 rfl ?_
  refine bv_iconst (v := nI 2) 195 rfl C d_L_law_194 (by decide) ?_
  refine bv_iadd 196 rfl C d_L_law_195 ?_
  refine bv_sld 2 197 rfl C hX (by decide) (by decide) (by decide) d_L_law_196 ?_
  refine bv_aload_n 198 rfl C d_L_law_197 rfl ?_
  refine bv_iload 200 rfl C d_L_law_198 rfl ?_
  refine bv_iconst (v := nI 3) 201 rfl C d_L_law_200 (by decide) ?_
  refine bv_iadd 202 rfl C d_L_law_201 ?_
  refine bv_sld 3 203 rfl C hX (by decide) (by decide) (by decide) d_L_law_202 ?_
  refine bv_aload_n 204 rfl C d_L_law_203 rfl ?_
  refine bv_iload 206 rfl C d_L_law_204 rfl ?_
  refine bv_iconst (v := nI 4) 207 rfl C d_L_law_206 (by decide) ?_
  refine bv_iadd 208 rfl C d_L_law_207 ?_
  refine bv_sld 4 209 rfl C hX (by decide) (by decide) (by decide) d_L_law_208 ?_
  refine bv_i2l 210 rfl C d_L_law_209 rfl ?_
  refine bv_bipush (v := nI 32) 212 rfl C d_L_law_210 (by decide) ?_
  refine bv_lshl 213 rfl C d_L_law_212 rfl ?_
  refine bv_aload_n 214 rfl C d_L_law_213 rfl ?_
  refine bv_iload 216 rfl C d_L_law_214 rfl ?_
  refine bv_iconst (v := nI 5) 217 rfl C d_L_law_216 (by decide) ?_
  refine bv_iadd 218 rfl C d_L_law_217 ?_
  refine bv_sld 5 219 rfl C hX (by decide) (by decide) (by decide) d_L_law_218 ?_
  refine bv_i2l 220 rfl C d_L_law_219 rfl ?_
  refine bv_ldc2 223 rfl C t4_70 d_L_law_220 ?_
  refine bv_land 224 rfl C d_L_law_223 ?_
  refine bv_lor 225 rfl C d_L_law_224 ?_
  refine bv_topl (fun u0 _ => ?_)
  refine bv_aload_n 226 rfl C d_L_law_225 rfl ?_
  refine bv_iload 228 rfl C d_L_law_226 rfl ?_
  refine bv_bipush (v := nI 6) 230 rfl C d_L_law_228 (by decide) ?_
  refine bv_iadd 231 rfl C d_L_law_230 ?_
  refine bv_sld 6 232 rfl C hX (by decide) (by decide) (by decide) d_L_law_231 ?_
  refine bv_i2l 233 rfl C d_L_law_232 rfl ?_
  refine bv_bipush (v := nI 32) 235 rfl C d_L_law_233 (by decide) ?_
  refine bv_lshl 236 rfl C d_L_law_235 rfl ?_
  refine bv_aload_n 237 rfl C d_L_law_236 rfl ?_
  refine bv_iload 239 rfl C d_L_law_237 rfl ?_
  refine bv_bipush (v := nI 7) 241 rfl C d_L_law_239 (by decide) ?_
  refine bv_iadd 242 rfl C d_L_law_241 ?_
  refine bv_sld 7 243 rfl C hX (by decide) (by decide) (by decide) d_L_law_242 ?_
  refine bv_i2l 244 rfl C d_L_law_243 rfl ?_
  refine bv_ldc2 247 rfl C t4_70 d_L_law_244 ?_
  refine bv_land 248 rfl C d_L_law_247 ?_
  refine bv_lor 249 rfl C d_L_law_248 ?_
  refine bv_topl (fun u1 _ => ?_)
  refine bv_aload_n 250 rfl C d_L_law_249 rfl ?_
  refine bv_iload 252 rfl C d_L_law_250 rfl ?_
  refine bv_bipush (v := nI 8) 254 rfl C d_L_law_252 (by decide) ?_
  refine bv_iadd 255 rfl C d_L_law_254 ?_
  refine bv_sld 8 256 rfl C hX (by decide) (by decide) (by decide) d_L_law_255 ?_
  refine bv_i2l 257 rfl C d_L_law_256 rfl ?_
  refine bv_bipush (v := nI 32) 259 rfl C d_L_law_257 (by decide) ?_
  refine bv_lshl 260 rfl C d_L_law_259 rfl ?_
  refine bv_aload_n 261 rfl C d_L_law_260 rfl ?_
  refine bv_iload 263 rfl C d_L_law_261 rfl ?_
  refine bv_bipush (v := nI 9) 265 rfl C d_L_law_263 (by decide) ?_
  refine bv_iadd 266 rfl C d_L_law_265 ?_
  refine bv_sld 9 267 rfl C hX (by decide) (by decide) (by decide) d_L_law_266 ?_
  refine bv_i2l 268 rfl C d_L_law_267 rfl ?_
  refine bv_ldc2 271 rfl C t4_70 d_L_law_268 ?_
  refine bv_land 272 rfl C d_L_law_271 ?_
  refine bv_lor 273 rfl C d_L_law_272 ?_
  refine bv_topl (fun u2 _ => ?_)
  refine bv_aload_n 274 rfl C d_L_law_273 rfl ?_
  refine bv_call (rest := []) 277 rfl C d_L_law_274 (ct_L_part (dd := dd) hlt (by decide) hB (x := xs 1) (y := xs 2) (z := xs 3) (a := u0) (b := u1) (c0 := u2)) i_L_part t1_0 (fun H locs ls _ => bs_S (av := [.ref (ad 0), .int (xs 1), .int (xs 2), .int (xs 3), .long u0, .long u1, .long u2, .ref (ad 323)]) C i_L_part t2_182 t2_183 t1_0 (by decide) rfl rfl d_L_law_274 H locs ls) ⟨by first | decide | omega, by first | decide | omega⟩ (by decide) (by decide) (Nat.le_of_ble_eq_true rfl) (fun v ad1 w1 N1 hpo => ?_) (fun x Cn ad' w' N' hth => hth.elim)
  obtain ⟨rfl, rfl, hk, r, rfl, rfl⟩ := hpo
  refine bv_istore 279 rfl C d_L_law_277 (by decide) ?_
  refine bv_aload_n 280 rfl C d_L_law_279 rfl ?_
  refine bv_aload_n 281 rfl C d_L_law_280 rfl ?_
  refine bv_iload 283 rfl C d_L_law_281 rfl ?_
  refine bv_iconst (v := nI 1) 284 rfl C d_L_law_283 (by decide) ?_
  refine bv_iadd 285 rfl C d_L_law_284 ?_
  refine bv_sld 1 286 rfl C hX (by decide) (by decide) (by decide) d_L_law_285 ?_
  refine bv_aload_n 287 rfl C d_L_law_286 rfl ?_
  refine bv_iload 289 rfl C d_L_law_287 rfl ?_
  refine bv_iconst (v := nI 2) 290 rfl C d_L_law_289 (by decide) ?_
  refine bv_iadd 291 rfl C d_L_law_290 ?_
  refine bv_sld 2 292 rfl C hX (by decide) (by decide) (by decide) d_L_law_291 ?_
  refine bv_aload_n 293 rfl C d_L_law_292 rfl ?_
  refine bv_iload 295 rfl C d_L_law_293 rfl ?_
  refine bv_iconst (v := nI 3) 296 rfl C d_L_law_295 (by decide) ?_
  refine bv_iadd 297 rfl C d_L_law_296 ?_
  refine bv_sld 3 298 rfl C hX (by decide) (by decide) (by decide) d_L_law_297 ?_
  refine bv_aload_n 299 rfl C d_L_law_298 rfl ?_
  refine bv_iload 301 rfl C d_L_law_299 rfl ?_
  refine bv_iconst (v := nI 4) 302 rfl C d_L_law_301 (by decide) ?_
  refine bv_iadd 303 rfl C d_L_law_302 ?_
  refine bv_sld 4 304 rfl C hX (by decide) (by decide) (by decide) d_L_law_303 ?_
  refine bv_i2l 305 rfl C d_L_law_304 rfl ?_
  refine bv_bipush (v := nI 32) 307 rfl C d_L_law_305 (by decide) ?_
  refine bv_lshl 308 rfl C d_L_law_307 rfl ?_
  refine bv_aload_n 309 rfl C d_L_law_308 rfl ?_
  refine bv_iload 311 rfl C d_L_law_309 rfl ?_
  refine bv_iconst (v := nI 5) 312 rfl C d_L_law_311 (by decide) ?_
  refine bv_iadd 313 rfl C d_L_law_312 ?_
  refine bv_sld 5 314 rfl C hX (by decide) (by decide) (by decide) d_L_law_313 ?_
  refine bv_i2l 315 rfl C d_L_law_314 rfl ?_
  refine bv_ldc2 318 rfl C t4_70 d_L_law_315 ?_
  refine bv_land 319 rfl C d_L_law_318 ?_
  refine bv_lor 320 rfl C d_L_law_319 ?_
  refine bv_topl (fun v0 _ => ?_)
  refine bv_aload_n 321 rfl C d_L_law_320 rfl ?_
  refine bv_iload 323 rfl C d_L_law_321 rfl ?_
  refine bv_bipush (v := nI 6) 325 rfl C d_L_law_323 (by decide) ?_
  refine bv_iadd 326 rfl C d_L_law_325 ?_
  refine bv_sld 6 327 rfl C hX (by decide) (by decide) (by decide) d_L_law_326 ?_
  refine bv_i2l 328 rfl C d_L_law_327 rfl ?_
  refine bv_bipush (v := nI 32) 330 rfl C d_L_law_328 (by decide) ?_
  refine bv_lshl 331 rfl C d_L_law_330 rfl ?_
  refine bv_aload_n 332 rfl C d_L_law_331 rfl ?_
  refine bv_iload 334 rfl C d_L_law_332 rfl ?_
  refine bv_bipush (v := nI 7) 336 rfl C d_L_law_334 (by decide) ?_
  refine bv_iadd 337 rfl C d_L_law_336 ?_
  refine bv_sld 7 338 rfl C hX (by decide) (by decide) (by decide) d_L_law_337 ?_
  refine bv_i2l 339 rfl C d_L_law_338 rfl ?_
  refine bv_ldc2 342 rfl C t4_70 d_L_law_339 ?_
  refine bv_land 343 rfl C d_L_law_342 ?_
  refine bv_lor 344 rfl C d_L_law_343 ?_
  refine bv_topl (fun v1 _ => ?_)
  refine bv_aload_n 345 rfl C d_L_law_344 rfl ?_
  refine bv_iload 347 rfl C d_L_law_345 rfl ?_
  refine bv_bipush (v := nI 8) 349 rfl C d_L_law_347 (by decide) ?_
  refine bv_iadd 350 rfl C d_L_law_349 ?_
  refine bv_sld 8 351 rfl C hX (by decide) (by decide) (by decide) d_L_law_350 ?_
  refine bv_i2l 352 rfl C d_L_law_351 rfl ?_
  refine bv_bipush (v := nI 32) 354 rfl C d_L_law_352 (by decide) ?_
  refine bv_lshl 355 rfl C d_L_law_354 rfl ?_
  refine bv_aload_n 356 rfl C d_L_law_355 rfl ?_
  refine bv_iload 358 rfl C d_L_law_356 rfl ?_
  refine bv_bipush (v := nI 9) 360 rfl C d_L_law_358 (by decide) ?_
  refine bv_iadd 361 rfl C d_L_law_360 ?_
  refine bv_sld 9 362 rfl C hX (by decide) (by decide) (by decide) d_L_law_361 ?_
  refine bv_i2l 363 rfl C d_L_law_362 rfl ?_
  refine bv_ldc2 366 rfl C t4_70 d_L_law_363 ?_
  refine bv_land 367 rfl C d_L_law_366 ?_
  refine bv_lor 368 rfl C d_L_law_367 ?_
  refine bv_topl (fun v2 _ => ?_)
  refine bv_call (rest := []) 371 rfl C d_L_law_368 (ct_M_part (dd := dd) (by decide) ((hk 305 (by decide) (by decide)).trans hM.1) ((hk 308 (by decide) (by decide)).trans hM.2.2.2.1) (x := xs 1) (y := xs 2) (z := xs 3) (a := v0) (b := v1) (c0 := v2)) i_M_part t1_8 (fun H locs ls hP => bs_V (av := [.int (xs 1), .int (xs 2), .int (xs 3), .long v0, .long v1, .long v2]) 305 C i_M_part t3_195 t3_196 t3_197 (by decide) rfl ((hk 305 (by decide) (by decide)).trans hM.1) rfl (by decide) rfl rfl d_L_law_368 H locs ls hP) ⟨by first | decide | omega, by first | decide | omega⟩ (by decide) (by decide) (Nat.le_of_ble_eq_true rfl) (fun v ad2 w2 N2 hpo => ?_) (fun x Cn ad' w' N' hth => hth.elim)
  obtain ⟨rfl, rfl, th, ve, wr, cu, dn, hm2, rfl, r, rfl⟩ := hpo
  refine bv_istore 373 rfl C d_L_law_371 (by decide) ?_
  refine bv_aload_n 374 rfl C d_L_law_373 rfl ?_
  refine bv_call (rest := []) 377 rfl C d_L_law_374 (ct_M_thrown (dd := dd) (by decide) hm2) i_M_thrown t1_8 (fun H locs ls hP => bs_V (av := []) 305 C i_M_thrown t3_176 t3_177 t3_178 (by decide) rfl hm2 rfl (by decide) rfl rfl d_L_law_374 H locs ls hP) ⟨by first | decide | omega, by first | decide | omega⟩ (by decide) (by decide) (Nat.le_of_ble_eq_true rfl) (fun v ad4 w4 N4 hpo => ?_) (fun x Cn ad' w' N' hth => hth.elim)
  obtain ⟨rfl, rfl, rfl, rfl⟩ := hpo
  refine bv_iload 379 rfl C d_L_law_377 rfl ?_
  refine bv_icmp_eq 384 382 rfl C d_L_law_379 (by decide) (fun h => ?_) (fun h => absurd rfl h)
  refine bv_iload 386 rfl C d_L_law_384 rfl ?_
  refine bv_if_ne 401 389 rfl C d_L_law_386 (by decide) (fun h => ?_) (fun h => absurd h (show ¬ nI 2 = 0 by decide))
  refine bv_goto 938 C d_L_law_401 (by decide) ?_
  refine bv_wk [(0, .ref b), (4, .int (nI 0))] ⟨rfl, rfl, trivial⟩ ?_
  exact law1_end C hX (by decide) (by decide)
theorem law1_complete {g0 : Nat → Int64} (C : bCx p { frames := 12, cells := 600002, slots := 7302232, locals := 484 } s m args meth c code "BlobStoreLaw" 7 (some .boolean) [] dd A) (hlt : bOff l) (hX : bX b 10 xs s A) (hB : FB dd ad w) (hM : FM dd ad w) (ho : w 323 = aL dd 1 g0) : bV p l e { frames := 12, cells := 600002, slots := 7302232, locals := 484 } s m args below meth c dd A 7 600002 7302232 (fun v _ _ _ => v = some (.int 1)) bNo 404 (bO [(0, .ref b), (1, .ref (ad 0)), (2, .ref (ad 305)), (3, .ref (ad 323)), (4, .int (nI 0))]) [] ad w 324 324 3647 := by
  refine bv_aload_n 405 rfl C d_L_law_404 rfl ?_
  refine bv_aload_n 406 rfl C d_L_law_405 rfl ?_
  refine bv_iload 408 rfl C d_L_law_406 rfl ?_
  refine bv_iconst (v := nI 1) 409 rfl C d_L_law_408 (by decide) ?_
  refine bv_iadd 410 rfl C d_L_law_409 ?_
  refine bv_sld 1 411 rfl C hX (by decide) (by decide) (by decide) d_L_law_410 ?_
  refine bv_aload_n 412 rfl C d_L_law_411 rfl ?_
  refine bv_call (rest := []) 415 rfl C d_L_law_412 (ct_L_complete (dd := dd) hlt (by decide) hB (x := xs 1)) i_L_complete t1_0 (fun H locs ls _ => bs_S (av := [.ref (ad 0), .int (xs 1), .ref (ad 323)]) C i_L_complete t3_15 t3_16 t1_0 (by decide) rfl rfl d_L_law_412 H locs ls) ⟨by first | decide | omega, by first | decide | omega⟩ (by decide) (by decide) (Nat.le_of_ble_eq_true rfl) (fun v ad1 w1 N1 hpo => ?_) (fun x Cn ad' w' N' hth => hth.elim)
  obtain ⟨rfl, rfl, hk, r, rfl, rfl⟩ := hpo
  refine bv_istore 417 rfl C d_L_law_415 (by decide) ?_
  refine bv_aload_n 418 rfl C d_L_law_417 rfl ?_
  refine bv_aload_n 419 rfl C d_L_law_418 rfl ?_
  refine bv_iload 421 rfl C d_L_law_419 rfl ?_
  refine bv_iconst (v := nI 1) 422 rfl C d_L_law_421 (by decide) ?_
  refine bv_iadd 423 rfl C d_L_law_422 ?_
  refine bv_sld 1 424 rfl C hX (by decide) (by decide) (by decide) d_L_law_423 ?_
  refine bv_call (rest := []) 427 rfl C d_L_law_424 (ct_M_complete (dd := dd) (by decide) ((hk 305 (by decide) (by decide)).trans hM.1) ((hk 308 (by decide) (by decide)).trans hM.2.2.2.1) (x := xs 1)) i_M_complete t1_8 (fun H locs ls hP => bs_V (av := [.int (xs 1)]) 305 C i_M_complete t3_235 t3_236 t3_237 (by decide) rfl ((hk 305 (by decide) (by decide)).trans hM.1) rfl (by decide) rfl rfl d_L_law_424 H locs ls hP) ⟨by first | decide | omega, by first | decide | omega⟩ (by decide) (by decide) (Nat.le_of_ble_eq_true rfl) (fun v ad2 w2 N2 hpo => ?_) (fun x Cn ad' w' N' hth => hth.elim)
  obtain ⟨rfl, rfl, th, ve, wr, cu, dn, hm2, rfl, r, rfl⟩ := hpo
  refine bv_istore 429 rfl C d_L_law_427 (by decide) ?_
  refine bv_aload_n 430 rfl C d_L_law_429 rfl ?_
  refine bv_call (rest := []) 433 rfl C d_L_law_430 (ct_M_thrown (dd := dd) (by decide) hm2) i_M_thrown t1_8 (fun H locs ls hP => bs_V (av := []) 305 C i_M_thrown t3_176 t3_177 t3_178 (by decide) rfl hm2 rfl (by decide) rfl rfl d_L_law_430 H locs ls hP) ⟨by first | decide | omega, by first | decide | omega⟩ (by decide) (by decide) (Nat.le_of_ble_eq_true rfl) (fun v ad4 w4 N4 hpo => ?_) (fun x Cn ad' w' N' hth => hth.elim)
  obtain ⟨rfl, rfl, rfl, rfl⟩ := hpo
  refine bv_iload 435 rfl C d_L_law_433 rfl ?_
  refine bv_icmp_eq 440 438 rfl C d_L_law_435 (by decide) (fun h => ?_) (fun h => absurd rfl h)
  refine bv_iload 442 rfl C d_L_law_440 rfl ?_
  refine bv_if_ne 457 445 rfl C d_L_law_442 (by decide) (fun h => ?_) (fun h => absurd h (show ¬ nI 2 = 0 by decide))
  refine bv_goto 938 C d_L_law_457 (by decide) ?_
  refine bv_wk [(0, .ref b), (4, .int (nI 0))] ⟨rfl, rfl, trivial⟩ ?_
  exact law1_end C hX (by decide) (by decide)
theorem law1_abort {g0 : Nat → Int64} (C : bCx p { frames := 12, cells := 600002, slots := 7302232, locals := 484 } s m args meth c code "BlobStoreLaw" 7 (some .boolean) [] dd A) (hlt : bOff l) (hX : bX b 10 xs s A) (hB : FB dd ad w) (hM : FM dd ad w) (ho : w 323 = aL dd 1 g0) : bV p l e { frames := 12, cells := 600002, slots := 7302232, locals := 484 } s m args below meth c dd A 7 600002 7302232 (fun v _ _ _ => v = some (.int 1)) bNo 460 (bO [(0, .ref b), (1, .ref (ad 0)), (2, .ref (ad 305)), (3, .ref (ad 323)), (4, .int (nI 0))]) [] ad w 324 324 3647 := by
  refine bv_aload_n 461 rfl C d_L_law_460 rfl ?_
  refine bv_aload_n 462 rfl C d_L_law_461 rfl ?_
  refine bv_iload 464 rfl C d_L_law_462 rfl ?_
  refine bv_iconst (v := nI 1) 465 rfl C d_L_law_464 (by decide) ?_
  refine bv_iadd 466 rfl C d_L_law_465 ?_
  refine bv_sld 1 467 rfl C hX (by decide) (by decide) (by decide) d_L_law_466 ?_
  refine bv_call (rest := []) 470 rfl C d_L_law_467 (ct_L_abort (dd := dd) hlt (by decide) hB (x := xs 1)) i_L_abort t1_0 (fun H locs ls _ => bs_S (av := [.ref (ad 0), .int (xs 1)]) C i_L_abort t3_28 t3_29 t1_0 (by decide) rfl rfl d_L_law_467 H locs ls) ⟨by first | decide | omega, by first | decide | omega⟩ (by decide) (by decide) (Nat.le_of_ble_eq_true rfl) (fun v ad1 w1 N1 hpo => ?_) (fun x Cn ad' w' N' hth => hth.elim)
  obtain ⟨rfl, rfl, hk, r, rfl, rfl⟩ := hpo
  refine bv_istore 472 rfl C d_L_law_470 (by decide) ?_
  refine bv_aload_n 473 rfl C d_L_law_472 rfl ?_
  refine bv_aload_n 474 rfl C d_L_law_473 rfl ?_
  refine bv_iload 476 rfl C d_L_law_474 rfl ?_
  refine bv_iconst (v := nI 1) 477 rfl C d_L_law_476 (by decide) ?_
  refine bv_iadd 478 rfl C d_L_law_477 ?_
  refine bv_sld 1 479 rfl C hX (by decide) (by decide) (by decide) d_L_law_478 ?_
  refine bv_call (rest := []) 482 rfl C d_L_law_479 (ct_M_abort (dd := dd) (by decide) ((hk 305 (by decide) (by decide)).trans hM.1) ((hk 308 (by decide) (by decide)).trans hM.2.2.2.1) (x := xs 1)) i_M_abort t1_8 (fun H locs ls hP => bs_V (av := [.int (xs 1)]) 305 C i_M_abort t3_239 t4_0 t4_1 (by decide) rfl ((hk 305 (by decide) (by decide)).trans hM.1) rfl (by decide) rfl rfl d_L_law_479 H locs ls hP) ⟨by first | decide | omega, by first | decide | omega⟩ (by decide) (by decide) (Nat.le_of_ble_eq_true rfl) (fun v ad2 w2 N2 hpo => ?_) (fun x Cn ad' w' N' hth => hth.elim)
  obtain ⟨rfl, rfl, th, ve, wr, cu, dn, hm2, rfl, rfl⟩ := hpo
  refine bv_aload_n 483 rfl C d_L_law_482 rfl ?_
  refine bv_call (rest := []) 486 rfl C d_L_law_483 (ct_M_thrown (dd := dd) (by decide) hm2) i_M_thrown t1_8 (fun H locs ls hP => bs_V (av := []) 305 C i_M_thrown t3_176 t3_177 t3_178 (by decide) rfl hm2 rfl (by decide) rfl rfl d_L_law_483 H locs ls hP) ⟨by first | decide | omega, by first | decide | omega⟩ (by decide) (by decide) (Nat.le_of_ble_eq_true rfl) (fun v ad4 w4 N4 hpo => ?_) (fun x Cn ad' w' N' hth => hth.elim)
  obtain ⟨rfl, rfl, rfl, rfl⟩ := hpo
  refine bv_iload 488 rfl C d_L_law_486 rfl ?_
  refine bv_icmp_eq 493 491 rfl C d_L_law_488 (by decide) (fun h => ?_) (fun h => absurd rfl h)
  refine bv_goto 938 C d_L_law_493 (by decide) ?_
  refine bv_wk [(0, .ref b), (4, .int (nI 0))] ⟨rfl, rfl, trivial⟩ ?_
  exact law1_end C hX (by decide) (by decide)
theorem law1_delete {g0 : Nat → Int64} (C : bCx p { frames := 12, cells := 600002, slots := 7302232, locals := 484 } s m args meth c code "BlobStoreLaw" 7 (some .boolean) [] dd A) (hlt : bOff l) (hX : bX b 10 xs s A) (hB : FB dd ad w) (hM : FM dd ad w) (ho : w 323 = aL dd 1 g0) : bV p l e { frames := 12, cells := 600002, slots := 7302232, locals := 484 } s m args below meth c dd A 7 600002 7302232 (fun v _ _ _ => v = some (.int 1)) bNo 496 (bO [(0, .ref b), (1, .ref (ad 0)), (2, .ref (ad 305)), (3, .ref (ad 323)), (4, .int (nI 0))]) [] ad w 324 324 3647 := by
  refine bv_aload_n 497 rfl C d_L_law_496 rfl ?_
  refine bv_aload_n 498 rfl C d_L_law_497 rfl ?_
  refine bv_iload 500 rfl C d_L_law_498 rfl ?_
  refine bv_iconst (v := nI 1) 501 rfl C d_L_law_500 (by decide) ?_
  refine bv_iadd 502 rfl C d_L_law_501 ?_
  refine bv_sld 1 503 rfl C hX (by decide) (by decide) (by decide) d_L_law_502 ?_
  refine bv_aload_n 504 rfl C d_L_law_503 rfl ?_
  refine bv_call (rest := []) 507 rfl C d_L_law_504 (ct_L_delete (dd := dd) hlt (by decide) hB ho (x := xs 1)) i_L_delete t1_0 (fun H locs ls _ => bs_S (av := [.ref (ad 0), .int (xs 1), .ref (ad 323)]) C i_L_delete t3_35 t3_36 t1_0 (by decide) rfl rfl d_L_law_504 H locs ls) ⟨by first | decide | omega, by first | decide | omega⟩ (by decide) (by decide) (Nat.le_of_ble_eq_true rfl) (fun v ad1 w1 N1 hpo => ?_) (fun x Cn ad' w' N' hth => hth.elim)
  obtain ⟨rfl, rfl, hk, r, rfl, rfl, g, hg, hg0⟩ := hpo
  refine bv_istore 509 rfl C d_L_law_507 (by decide) ?_
  refine bv_aload_n 510 rfl C d_L_law_509 rfl ?_
  refine bv_aload_n 511 rfl C d_L_law_510 rfl ?_
  refine bv_iload 513 rfl C d_L_law_511 rfl ?_
  refine bv_iconst (v := nI 1) 514 rfl C d_L_law_513 (by decide) ?_
  refine bv_iadd 515 rfl C d_L_law_514 ?_
  refine bv_sld 1 516 rfl C hX (by decide) (by decide) (by decide) d_L_law_515 ?_
  refine bv_call (rest := []) 519 rfl C d_L_law_516 (bK.frameN (N0 := 323) (N := 324) (by decide) (ct_M_delete (dd := dd) (by decide) ((hk 305 (by decide) (by decide)).trans hM.1) (x := xs 1)) (fun _ _ _ _ h => ⟨h.1, h.2.1⟩)) i_M_delete t1_8 (fun H locs ls hP => bs_V (av := [.int (xs 1)]) 305 C i_M_delete t4_3 t4_4 t4_5 (by decide) rfl ((hk 305 (by decide) (by decide)).trans hM.1) rfl (by decide) rfl rfl d_L_law_516 H locs ls hP) ⟨by first | decide | omega, by first | decide | omega⟩ (by decide) (by decide) (Nat.le_of_ble_eq_true rfl) (fun v ad2 w2 N2 hpo => ?_) (fun x Cn ad' w' N' hth => hth.elim)
  obtain ⟨rfl, rfl, hk2, w3, ⟨-, -, th, ve, wr, cu, dn, hm3, rfl, rfl⟩, hk3⟩ := hpo
  have hm2 := (hk3 305 (by decide)).trans hm3
  refine bv_istore 521 rfl C d_L_law_519 (by decide) ?_
  refine bv_aload_n 522 rfl C d_L_law_521 rfl ?_
  refine bv_call (rest := []) 525 rfl C d_L_law_522 (ct_M_thrown (dd := dd) (by decide) hm2) i_M_thrown t1_8 (fun H locs ls hP => bs_V (av := []) 305 C i_M_thrown t3_176 t3_177 t3_178 (by decide) rfl hm2 rfl (by decide) rfl rfl d_L_law_522 H locs ls hP) ⟨by first | decide | omega, by first | decide | omega⟩ (by decide) (by decide) (Nat.le_of_ble_eq_true rfl) (fun v ad4 w4 N4 hpo => ?_) (fun x Cn ad' w' N' hth => hth.elim)
  obtain ⟨rfl, rfl, rfl, rfl⟩ := hpo
  refine bv_iload 527 rfl C d_L_law_525 rfl ?_
  refine bv_icmp_eq 532 530 rfl C d_L_law_527 (by decide) (fun h => ?_) (fun h => absurd rfl h)
  refine bv_iload 534 rfl C d_L_law_532 rfl ?_
  refine bv_if_ne 556 537 rfl C d_L_law_534 (by decide) (fun h => absurd (show nI 0 = 0 by decide) h) (fun h => ?_)
  refine bv_aload_n 538 rfl C d_L_law_537 rfl ?_
  refine bv_iconst (v := nI 0) 539 rfl C d_L_law_538 (by decide) ?_
  refine bv_lald 323 0 540 rfl C (by decide) rfl ((hk2 323 (by decide)).trans hg) rfl (by decide) (by decide) d_L_law_539 ?_
  refine bv_iload 542 rfl C d_L_law_540 rfl ?_
  refine bv_if_eq 549 545 rfl C d_L_law_542 (by decide) (fun h => ?_) (fun h => absurd (show nI 0 = 0 by decide) h)
  refine bv_lconst (v := 0) 550 rfl C d_L_law_549 (by decide) ?_
  refine bv_lcmp 551 rfl C d_L_law_550 ?_
  refine bv_seti 0 (by rw [hg0]; decide) ?_
  refine bv_if_eq 556 554 rfl C d_L_law_551 (by decide) (fun h => ?_) (fun h => absurd rfl h)
  refine bv_goto 938 C d_L_law_556 (by decide) ?_
  refine bv_wk [(0, .ref b), (4, .int (nI 0))] ⟨rfl, rfl, trivial⟩ ?_
  exact law1_end C hX (by decide) (by decide)
theorem law1_collect {g0 : Nat → Int64} (C : bCx p { frames := 12, cells := 600002, slots := 7302232, locals := 484 } s m args meth c code "BlobStoreLaw" 7 (some .boolean) [] dd A) (hlt : bOff l) (hX : bX b 10 xs s A) (hB : FB dd ad w) (hM : FM dd ad w) (ho : w 323 = aL dd 1 g0) : bV p l e { frames := 12, cells := 600002, slots := 7302232, locals := 484 } s m args below meth c dd A 7 600002 7302232 (fun v _ _ _ => v = some (.int 1)) bNo 559 (bO [(0, .ref b), (1, .ref (ad 0)), (2, .ref (ad 305)), (3, .ref (ad 323)), (4, .int (nI 0))]) [] ad w 324 324 3647 := by
  refine bv_aload_n 560 rfl C d_L_law_559 rfl ?_
  refine bv_aload_n 561 rfl C d_L_law_560 rfl ?_
  refine bv_call (rest := []) 564 rfl C d_L_law_561 (ct_L_collect (dd := dd) hlt (by decide) hB ho) i_L_collect t1_0 (fun H locs ls _ => bs_S (av := [.ref (ad 0), .ref (ad 323)]) C i_L_collect t3_42 t3_43 t1_0 (by decide) rfl rfl d_L_law_561 H locs ls) ⟨by first | decide | omega, by first | decide | omega⟩ (by decide) (by decide) (Nat.le_of_ble_eq_true rfl) (fun v ad1 w1 N1 hpo => ?_) (fun x Cn ad' w' N' hth => hth.elim)
  obtain ⟨rfl, rfl, hk, r, rfl, rfl, g, hg, hg0⟩ := hpo
  refine bv_istore 566 rfl C d_L_law_564 (by decide) ?_
  refine bv_aload_n 567 rfl C d_L_law_566 rfl ?_
  refine bv_call (rest := []) 570 rfl C d_L_law_567 (bK.frameN (N0 := 323) (N := 324) (by decide) (ct_M_collect (dd := dd) (by decide) ((hk 305 (by decide) (by decide)).trans hM.1) ((hk 306 (by decide) (by decide)).trans hM.2.1)) (fun _ _ _ _ h => ⟨h.1, h.2.1⟩)) i_M_collect t1_8 (fun H locs ls hP => bs_V (av := []) 305 C i_M_collect t4_11 t4_12 t4_13 (by decide) rfl ((hk 305 (by decide) (by decide)).trans hM.1) rfl (by decide) rfl rfl d_L_law_567 H locs ls hP) ⟨by first | decide | omega, by first | decide | omega⟩ (by decide) (by decide) (Nat.le_of_ble_eq_true rfl) (fun v ad2 w2 N2 hpo => ?_) (fun x Cn ad' w' N' hth => hth.elim)
  obtain ⟨rfl, rfl, hk2, w3, ⟨-, -, th, ve, wr, cu, dn, hm3, rfl, rfl⟩, hk3⟩ := hpo
  have hm2 := (hk3 305 (by decide)).trans hm3
  refine bv_istore 572 rfl C d_L_law_570 (by decide) ?_
  refine bv_aload_n 573 rfl C d_L_law_572 rfl ?_
  refine bv_call (rest := []) 576 rfl C d_L_law_573 (ct_M_thrown (dd := dd) (by decide) hm2) i_M_thrown t1_8 (fun H locs ls hP => bs_V (av := []) 305 C i_M_thrown t3_176 t3_177 t3_178 (by decide) rfl hm2 rfl (by decide) rfl rfl d_L_law_573 H locs ls hP) ⟨by first | decide | omega, by first | decide | omega⟩ (by decide) (by decide) (Nat.le_of_ble_eq_true rfl) (fun v ad4 w4 N4 hpo => ?_) (fun x Cn ad' w' N' hth => hth.elim)
  obtain ⟨rfl, rfl, rfl, rfl⟩ := hpo
  refine bv_iload 578 rfl C d_L_law_576 rfl ?_
  refine bv_icmp_eq 583 581 rfl C d_L_law_578 (by decide) (fun h => ?_) (fun h => absurd rfl h)
  refine bv_iload 585 rfl C d_L_law_583 rfl ?_
  refine bv_if_ne 600 588 rfl C d_L_law_585 (by decide) (fun h => absurd (show nI 0 = 0 by decide) h) (fun h => ?_)
  refine bv_aload_n 589 rfl C d_L_law_588 rfl ?_
  refine bv_iconst (v := nI 0) 590 rfl C d_L_law_589 (by decide) ?_
  refine bv_lald 323 0 591 rfl C (by decide) rfl ((hk2 323 (by decide)).trans hg) rfl (by decide) (by decide) d_L_law_590 ?_
  refine bv_iload 593 rfl C d_L_law_591 rfl ?_
  refine bv_i2l 594 rfl C d_L_law_593 rfl ?_
  refine bv_lcmp 595 rfl C d_L_law_594 ?_
  refine bv_seti 0 (by rw [hg0]; decide) ?_
  refine bv_if_eq 600 598 rfl C d_L_law_595 (by decide) (fun h => ?_) (fun h => absurd rfl h)
  refine bv_goto 938 C d_L_law_600 (by decide) ?_
  refine bv_wk [(0, .ref b), (4, .int (nI 0))] ⟨rfl, rfl, trivial⟩ ?_
  exact law1_end C hX (by decide) (by decide)
theorem law1_cutAfter {g0 : Nat → Int64} (C : bCx p { frames := 12, cells := 600002, slots := 7302232, locals := 484 } s m args meth c code "BlobStoreLaw" 7 (some .boolean) [] dd A) (hlt : bOff l) (hX : bX b 10 xs s A) (hB : FB dd ad w) (hM : FM dd ad w) (ho : w 323 = aL dd 1 g0) : bV p l e { frames := 12, cells := 600002, slots := 7302232, locals := 484 } s m args below meth c dd A 7 600002 7302232 (fun v _ _ _ => v = some (.int 1)) bNo 603 (bO [(0, .ref b), (1, .ref (ad 0)), (2, .ref (ad 305)), (3, .ref (ad 323)), (4, .int (nI 0))]) [] ad w 324 324 3647 := by
  refine bv_aload_n 604 rfl C d_L_law_603 rfl ?_
  refine bv_aload_n 605 rfl C d_L_law_604 rfl ?_
  refine bv_iload 607 rfl C d_L_law_605 rfl ?_
  refine bv_iconst (v := nI 1) 608 rfl C d_L_law_607 (by decide) ?_
  refine bv_iadd 609 rfl C d_L_law_608 ?_
  refine bv_sld 1 610 rfl C hX (by decide) (by decide) (by decide) d_L_law_609 ?_
  refine bv_call (rest := []) 613 rfl C d_L_law_610 (ct_L_cutAfter (dd := dd) hlt (by decide) hB.1.1 hB.1.2.1 (x := xs 1)) i_L_cutAfter t1_0 (fun H locs ls _ => bs_S (av := [.ref (ad 0), .int (xs 1)]) C i_L_cutAfter t3_53 t3_54 t1_0 (by decide) rfl rfl d_L_law_610 H locs ls) ⟨by first | decide | omega, by first | decide | omega⟩ (by decide) (by decide) (Nat.le_of_ble_eq_true rfl) (fun v ad1 w1 N1 hpo => ?_) (fun x Cn ad' w' N' hth => hth.elim)
  obtain ⟨rfl, rfl, hr⟩ := hpo
  have hm1 : w1 305 = mO ad 0 0 0 (-1) 0 := by
    rcases hr with ⟨-, -, rfl⟩ | ⟨-, -, rfl⟩
    · exact (va_up_ne _ _ (by decide)).trans hM.1
    · exact hM.1
  obtain ⟨r, rfl, hr'⟩ : ∃ r : Int32, v = some (.int r) ∧ ((r = nI 0 ∧ (¬ xs 1 < 0 ∧ xs 1 ≤ nI 1000)) ∨ (r = nI 1 ∧ ¬ (¬ xs 1 < 0 ∧ xs 1 ≤ nI 1000))) := by
    rcases hr with ⟨rfl, h, -⟩ | ⟨rfl, h, -⟩
    · exact ⟨_, rfl, Or.inl ⟨rfl, h⟩⟩
    · exact ⟨_, rfl, Or.inr ⟨rfl, h⟩⟩
  clear hr
  refine bv_istore 615 rfl C d_L_law_613 (by decide) ?_
  refine bv_aload_n 616 rfl C d_L_law_615 rfl ?_
  refine bv_aload_n 617 rfl C d_L_law_616 rfl ?_
  refine bv_iload 619 rfl C d_L_law_617 rfl ?_
  refine bv_iconst (v := nI 1) 620 rfl C d_L_law_619 (by decide) ?_
  refine bv_iadd 621 rfl C d_L_law_620 ?_
  refine bv_sld 1 622 rfl C hX (by decide) (by decide) (by decide) d_L_law_621 ?_
  refine bv_call (rest := []) 625 rfl C d_L_law_622 (ct_M_cutAfter (dd := dd) (by decide) hm1 (x := xs 1)) i_M_cutAfter t1_8 (fun H locs ls hP => bs_V (av := [.int (xs 1)]) 305 C i_M_cutAfter t4_23 t4_24 t4_25 (by decide) rfl hm1 rfl (by decide) rfl rfl d_L_law_622 H locs ls hP) ⟨by first | decide | omega, by first | decide | omega⟩ (by decide) (by decide) (Nat.le_of_ble_eq_true rfl) (fun v ad2 w2 N2 hpo => ?_) (fun x Cn ad' w' N' hth => hth.elim)
  obtain ⟨rfl, rfl, rfl, hv⟩ := hpo
  obtain ⟨th, ve, wr, cu, dn, hm2, heq⟩ : ∃ th ve wr cu dn, w2 305 = mO ad th ve wr cu dn ∧ th = r := by
    rcases hv with ⟨h, rfl⟩ | ⟨h, rfl⟩
    · rcases hr' with ⟨rfl, h'⟩ | ⟨rfl, h'⟩
      · exact ⟨_, _, _, _, _, va_up_self _ _ _, rfl⟩
      · exact absurd ((bIn_iff _ (by decide)).mp h) h'
    · rcases hr' with ⟨rfl, h'⟩ | ⟨rfl, h'⟩
      · exact absurd ((bIn_iff _ (by decide)).mpr h') h
      · exact ⟨_, _, _, _, _, va_up_self _ _ _, rfl⟩
  refine bv_aload_n 626 rfl C d_L_law_625 rfl ?_
  refine bv_call (rest := []) 629 rfl C d_L_law_626 (ct_M_thrown (dd := dd) (by decide) hm2) i_M_thrown t1_8 (fun H locs ls hP => bs_V (av := []) 305 C i_M_thrown t3_176 t3_177 t3_178 (by decide) rfl hm2 rfl (by decide) rfl rfl d_L_law_626 H locs ls hP) ⟨by first | decide | omega, by first | decide | omega⟩ (by decide) (by decide) (Nat.le_of_ble_eq_true rfl) (fun v ad4 w4 N4 hpo => ?_) (fun x Cn ad' w' N' hth => hth.elim)
  obtain ⟨rfl, rfl, rfl, rfl⟩ := hpo
  refine bv_iload 631 rfl C d_L_law_629 rfl ?_
  refine bv_icmp_eq 636 634 rfl C d_L_law_631 (by decide) (fun h => ?_) (fun h => absurd heq h)
  refine bv_goto 938 C d_L_law_636 (by decide) ?_
  refine bv_wk [(0, .ref b), (4, .int (nI 0))] ⟨rfl, rfl, trivial⟩ ?_
  exact law1_end C hX (by decide) (by decide)
theorem law1_recover {g0 : Nat → Int64} (C : bCx p { frames := 12, cells := 600002, slots := 7302232, locals := 484 } s m args meth c code "BlobStoreLaw" 7 (some .boolean) [] dd A) (hlt : bOff l) (hX : bX b 10 xs s A) (hB : FB dd ad w) (hM : FM dd ad w) (ho : w 323 = aL dd 1 g0) : bV p l e { frames := 12, cells := 600002, slots := 7302232, locals := 484 } s m args below meth c dd A 7 600002 7302232 (fun v _ _ _ => v = some (.int 1)) bNo 639 (bO [(0, .ref b), (1, .ref (ad 0)), (2, .ref (ad 305)), (3, .ref (ad 323)), (4, .int (nI 0))]) [] ad w 324 324 3647 := by
  refine bv_aload_n 640 rfl C d_L_law_639 rfl ?_
  refine bv_call (rest := []) 643 rfl C d_L_law_640 (ct_B_recover (dd := dd) (by decide) hB.1.1 hB.1.2.1) i_B_recover t1_1 (fun H locs ls hP => bs_V (av := []) 0 C i_B_recover t1_177 t1_178 t1_179 (by decide) rfl hB.1.1 rfl (by decide) rfl rfl d_L_law_640 H locs ls hP) ⟨by first | decide | omega, by first | decide | omega⟩ (by decide) (by decide) (Nat.le_of_ble_eq_true rfl) (fun v ad1 w1 N1 hpo => ?_) (fun x Cn ad' w' N' hth => hth.elim)
  obtain ⟨rfl, rfl, hr⟩ := hpo
  have hr' : v = some (.int (nI 0)) ∧ w1 = w := by
    rcases hr with ⟨-, h1, h2⟩ | ⟨h, -, -⟩
    · exact ⟨h1, h2⟩
    · exact absurd (show nI 0 = 0 by decide) h
  obtain ⟨rfl, rfl⟩ := hr'
  refine bv_aload_n 644 rfl C d_L_law_643 rfl ?_
  refine bv_call (rest := [.int (nI 0)]) 647 rfl C d_L_law_644 (ct_M_recover (dd := dd) (by decide) hM.1) i_M_recover t1_8 (fun H locs ls hP => bs_V (av := []) 305 C i_M_recover t4_27 t4_28 t4_29 (by decide) rfl hM.1 rfl (by decide) rfl rfl d_L_law_644 H locs ls hP) ⟨by first | decide | omega, by first | decide | omega⟩ (by decide) (by decide) (Nat.le_of_ble_eq_true rfl) (fun v ad2 w2 N2 hpo => ?_) (fun x Cn ad' w' N' hth => hth.elim)
  obtain ⟨rfl, rfl, th, ve, wr, cu, dn, hm2, rfl⟩ := hpo
  refine bv_icmp_eq 938 650 rfl C d_L_law_647 (by decide) (fun h => ?_) (fun h => absurd rfl h)
  refine bv_wk [(0, .ref b), (4, .int (nI 0))] ⟨rfl, rfl, trivial⟩ ?_
  exact law1_end C hX (by decide) (by decide)
theorem law1_latest {g0 : Nat → Int64} (C : bCx p { frames := 12, cells := 600002, slots := 7302232, locals := 484 } s m args meth c code "BlobStoreLaw" 7 (some .boolean) [] dd A) (hlt : bOff l) (hX : bX b 10 xs s A) (hB : FB dd ad w) (hM : FM dd ad w) (ho : w 323 = aL dd 1 g0) : bV p l e { frames := 12, cells := 600002, slots := 7302232, locals := 484 } s m args below meth c dd A 7 600002 7302232 (fun v _ _ _ => v = some (.int 1)) bNo 652 (bO [(0, .ref b), (1, .ref (ad 0)), (2, .ref (ad 305)), (3, .ref (ad 323)), (4, .int (nI 0))]) [] ad w 324 324 3647 := by
  refine bv_aload_n 653 rfl C d_L_law_652 rfl ?_
  refine bv_aload_n 654 rfl C d_L_law_653 rfl ?_
  refine bv_iload 656 rfl C d_L_law_654 rfl ?_
  refine bv_iconst (v := nI 1) 657 rfl C d_L_law_656 (by decide) ?_
  refine bv_iadd 658 rfl C d_L_law_657 ?_
  refine bv_sld 1 659 rfl C hX (by decide) (by decide) (by decide) d_L_law_658 ?_
  refine bv_aload_n 660 rfl C d_L_law_659 rfl ?_
  refine bv_iload 662 rfl C d_L_law_660 rfl ?_
  refine bv_iconst (v := nI 2) 663 rfl C d_L_law_662 (by decide) ?_
  refine bv_iadd 664 rfl C d_L_law_663 ?_
  refine bv_sld 2 665 rfl C hX (by decide) (by decide) (by decide) d_L_law_664 ?_
  refine bv_call (rest := []) 668 rfl C d_L_law_665 (ct_B_latest (dd := dd) (by decide) hB.1.1 (x := xs 1) (y := xs 2)) i_B_latest t1_1 (fun H locs ls hP => bs_V (av := [.int (xs 1), .int (xs 2)]) 0 C i_B_latest t1_185 t1_186 t1_187 (by decide) rfl hB.1.1 rfl (by decide) rfl rfl d_L_law_665 H locs ls hP) ⟨by first | decide | omega, by first | decide | omega⟩ (by decide) (by decide) (Nat.le_of_ble_eq_true rfl) (fun v ad1 w1 N1 hpo => ?_) (fun x Cn ad' w' N' hth => hth.elim)
  obtain ⟨rfl, rfl, rfl, rfl⟩ := hpo
  refine bv_aload_n 669 rfl C d_L_law_668 rfl ?_
  refine bv_aload_n 670 rfl C d_L_law_669 rfl ?_
  refine bv_iload 672 rfl C d_L_law_670 rfl ?_
  refine bv_iconst (v := nI 1) 673 rfl C d_L_law_672 (by decide) ?_
  refine bv_iadd 674 rfl C d_L_law_673 ?_
  refine bv_sld 1 675 rfl C hX (by decide) (by decide) (by decide) d_L_law_674 ?_
  refine bv_aload_n 676 rfl C d_L_law_675 rfl ?_
  refine bv_iload 678 rfl C d_L_law_676 rfl ?_
  refine bv_iconst (v := nI 2) 679 rfl C d_L_law_678 (by decide) ?_
  refine bv_iadd 680 rfl C d_L_law_679 ?_
  refine bv_sld 2 681 rfl C hX (by decide) (by decide) (by decide) d_L_law_680 ?_
  refine bv_call (rest := [.int (nI 0)]) 684 rfl C d_L_law_681 (ct_M_latest (dd := dd) (by decide) hM.1 (x := xs 1) (y := xs 2)) i_M_latest t1_8 (fun H locs ls hP => bs_V (av := [.int (xs 1), .int (xs 2)]) 305 C i_M_latest t4_31 t4_32 t4_33 (by decide) rfl hM.1 rfl (by decide) rfl rfl d_L_law_681 H locs ls hP) ⟨by first | decide | omega, by first | decide | omega⟩ (by decide) (by decide) (Nat.le_of_ble_eq_true rfl) (fun v ad2 w2 N2 hpo => ?_) (fun x Cn ad' w' N' hth => hth.elim)
  obtain ⟨rfl, rfl, th, ve, wr, cu, dn, hm2, rfl⟩ := hpo
  refine bv_icmp_eq 938 687 rfl C d_L_law_684 (by decide) (fun h => ?_) (fun h => absurd rfl h)
  refine bv_wk [(0, .ref b), (4, .int (nI 0))] ⟨rfl, rfl, trivial⟩ ?_
  exact law1_end C hX (by decide) (by decide)
theorem law1_size {g0 : Nat → Int64} (C : bCx p { frames := 12, cells := 600002, slots := 7302232, locals := 484 } s m args meth c code "BlobStoreLaw" 7 (some .boolean) [] dd A) (hlt : bOff l) (hX : bX b 10 xs s A) (hB : FB dd ad w) (hM : FM dd ad w) (ho : w 323 = aL dd 1 g0) : bV p l e { frames := 12, cells := 600002, slots := 7302232, locals := 484 } s m args below meth c dd A 7 600002 7302232 (fun v _ _ _ => v = some (.int 1)) bNo 689 (bO [(0, .ref b), (1, .ref (ad 0)), (2, .ref (ad 305)), (3, .ref (ad 323)), (4, .int (nI 0))]) [] ad w 324 324 3647 := by
  refine bv_aload_n 690 rfl C d_L_law_689 rfl ?_
  refine bv_aload_n 691 rfl C d_L_law_690 rfl ?_
  refine bv_iload 693 rfl C d_L_law_691 rfl ?_
  refine bv_iconst (v := nI 1) 694 rfl C d_L_law_693 (by decide) ?_
  refine bv_iadd 695 rfl C d_L_law_694 ?_
  refine bv_sld 1 696 rfl C hX (by decide) (by decide) (by decide) d_L_law_695 ?_
  refine bv_call (rest := []) 699 rfl C d_L_law_696 (ct_B_size (dd := dd) (by decide) hB.1.1 (x := xs 1)) i_B_size t1_1 (fun H locs ls hP => bs_V (av := [.int (xs 1)]) 0 C i_B_size t1_189 t1_190 t1_191 (by decide) rfl hB.1.1 rfl (by decide) rfl rfl d_L_law_696 H locs ls hP) ⟨by first | decide | omega, by first | decide | omega⟩ (by decide) (by decide) (Nat.le_of_ble_eq_true rfl) (fun v ad1 w1 N1 hpo => ?_) (fun x Cn ad' w' N' hth => hth.elim)
  obtain ⟨rfl, rfl, rfl, rfl⟩ := hpo
  refine bv_aload_n 700 rfl C d_L_law_699 rfl ?_
  refine bv_aload_n 701 rfl C d_L_law_700 rfl ?_
  refine bv_iload 703 rfl C d_L_law_701 rfl ?_
  refine bv_iconst (v := nI 1) 704 rfl C d_L_law_703 (by decide) ?_
  refine bv_iadd 705 rfl C d_L_law_704 ?_
  refine bv_sld 1 706 rfl C hX (by decide) (by decide) (by decide) d_L_law_705 ?_
  refine bv_call (rest := [.int (-1)]) 709 rfl C d_L_law_706 (ct_M_size (dd := dd) (by decide) hM.1 (x := xs 1)) i_M_size t1_8 (fun H locs ls hP => bs_V (av := [.int (xs 1)]) 305 C i_M_size t4_35 t4_36 t4_37 (by decide) rfl hM.1 rfl (by decide) rfl rfl d_L_law_706 H locs ls hP) ⟨by first | decide | omega, by first | decide | omega⟩ (by decide) (by decide) (Nat.le_of_ble_eq_true rfl) (fun v ad2 w2 N2 hpo => ?_) (fun x Cn ad' w' N' hth => hth.elim)
  obtain ⟨rfl, rfl, th, ve, wr, cu, dn, hm2, rfl⟩ := hpo
  refine bv_icmp_eq 938 712 rfl C d_L_law_709 (by decide) (fun h => ?_) (fun h => absurd rfl h)
  refine bv_wk [(0, .ref b), (4, .int (nI 0))] ⟨rfl, rfl, trivial⟩ ?_
  exact law1_end C hX (by decide) (by decide)
theorem law1_byteAt {g0 : Nat → Int64} (C : bCx p { frames := 12, cells := 600002, slots := 7302232, locals := 484 } s m args meth c code "BlobStoreLaw" 7 (some .boolean) [] dd A) (hlt : bOff l) (hX : bX b 10 xs s A) (hB : FB dd ad w) (hM : FM dd ad w) (ho : w 323 = aL dd 1 g0) : bV p l e { frames := 12, cells := 600002, slots := 7302232, locals := 484 } s m args below meth c dd A 7 600002 7302232 (fun v _ _ _ => v = some (.int 1)) bNo 714 (bO [(0, .ref b), (1, .ref (ad 0)), (2, .ref (ad 305)), (3, .ref (ad 323)), (4, .int (nI 0))]) [] ad w 324 324 3647 := by
  refine bv_aload_n 715 rfl C d_L_law_714 rfl ?_
  refine bv_aload_n 716 rfl C d_L_law_715 rfl ?_
  refine bv_iload 718 rfl C d_L_law_716 rfl ?_
  refine bv_iconst (v := nI 1) 719 rfl C d_L_law_718 (by decide) ?_
  refine bv_iadd 720 rfl C d_L_law_719 ?_
  refine bv_sld 1 721 rfl C hX (by decide) (by decide) (by decide) d_L_law_720 ?_
  refine bv_aload_n 722 rfl C d_L_law_721 rfl ?_
  refine bv_iload 724 rfl C d_L_law_722 rfl ?_
  refine bv_iconst (v := nI 2) 725 rfl C d_L_law_724 (by decide) ?_
  refine bv_iadd 726 rfl C d_L_law_725 ?_
  refine bv_sld 2 727 rfl C hX (by decide) (by decide) (by decide) d_L_law_726 ?_
  refine bv_call (rest := []) 730 rfl C d_L_law_727 (ct_B_byteAt (dd := dd) (by decide) hB.1.1 (x := xs 1) (y := xs 2)) i_B_byteAt t1_1 (fun H locs ls hP => bs_V (av := [.int (xs 1), .int (xs 2)]) 0 C i_B_byteAt t1_197 t1_198 t1_199 (by decide) rfl hB.1.1 rfl (by decide) rfl rfl d_L_law_727 H locs ls hP) ⟨by first | decide | omega, by first | decide | omega⟩ (by decide) (by decide) (Nat.le_of_ble_eq_true rfl) (fun v ad1 w1 N1 hpo => ?_) (fun x Cn ad' w' N' hth => hth.elim)
  obtain ⟨rfl, rfl, rfl, rfl⟩ := hpo
  refine bv_aload_n 731 rfl C d_L_law_730 rfl ?_
  refine bv_aload_n 732 rfl C d_L_law_731 rfl ?_
  refine bv_iload 734 rfl C d_L_law_732 rfl ?_
  refine bv_iconst (v := nI 1) 735 rfl C d_L_law_734 (by decide) ?_
  refine bv_iadd 736 rfl C d_L_law_735 ?_
  refine bv_sld 1 737 rfl C hX (by decide) (by decide) (by decide) d_L_law_736 ?_
  refine bv_aload_n 738 rfl C d_L_law_737 rfl ?_
  refine bv_iload 740 rfl C d_L_law_738 rfl ?_
  refine bv_iconst (v := nI 2) 741 rfl C d_L_law_740 (by decide) ?_
  refine bv_iadd 742 rfl C d_L_law_741 ?_
  refine bv_sld 2 743 rfl C hX (by decide) (by decide) (by decide) d_L_law_742 ?_
  refine bv_call (rest := [.int (-1)]) 746 rfl C d_L_law_743 (ct_M_byteAt (dd := dd) (by decide) hM.1 (x := xs 1) (y := xs 2)) i_M_byteAt t1_8 (fun H locs ls hP => bs_V (av := [.int (xs 1), .int (xs 2)]) 305 C i_M_byteAt t4_39 t4_40 t4_41 (by decide) rfl hM.1 rfl (by decide) rfl rfl d_L_law_743 H locs ls hP) ⟨by first | decide | omega, by first | decide | omega⟩ (by decide) (by decide) (Nat.le_of_ble_eq_true rfl) (fun v ad2 w2 N2 hpo => ?_) (fun x Cn ad' w' N' hth => hth.elim)
  obtain ⟨rfl, rfl, th, ve, wr, cu, dn, hm2, rfl⟩ := hpo
  refine bv_icmp_eq 938 749 rfl C d_L_law_746 (by decide) (fun h => ?_) (fun h => absurd rfl h)
  refine bv_wk [(0, .ref b), (4, .int (nI 0))] ⟨rfl, rfl, trivial⟩ ?_
  exact law1_end C hX (by decide) (by decide)
theorem law1_address {g0 : Nat → Int64} (C : bCx p { frames := 12, cells := 600002, slots := 7302232, locals := 484 } s m args meth c code "BlobStoreLaw" 7 (some .boolean) [] dd A) (hlt : bOff l) (hX : bX b 10 xs s A) (hB : FB dd ad w) (hM : FM dd ad w) (ho : w 323 = aL dd 1 g0) : bV p l e { frames := 12, cells := 600002, slots := 7302232, locals := 484 } s m args below meth c dd A 7 600002 7302232 (fun v _ _ _ => v = some (.int 1)) bNo 751 (bO [(0, .ref b), (1, .ref (ad 0)), (2, .ref (ad 305)), (3, .ref (ad 323)), (4, .int (nI 0))]) [] ad w 324 324 3647 := by
  refine bv_aload_n 752 rfl C d_L_law_751 rfl ?_
  refine bv_aload_n 753 rfl C d_L_law_752 rfl ?_
  refine bv_iload 755 rfl C d_L_law_753 rfl ?_
  refine bv_iconst (v := nI 1) 756 rfl C d_L_law_755 (by decide) ?_
  refine bv_iadd 757 rfl C d_L_law_756 ?_
  refine bv_sld 1 758 rfl C hX (by decide) (by decide) (by decide) d_L_law_757 ?_
  refine bv_aload_n 759 rfl C d_L_law_758 rfl ?_
  refine bv_iload 761 rfl C d_L_law_759 rfl ?_
  refine bv_iconst (v := nI 2) 762 rfl C d_L_law_761 (by decide) ?_
  refine bv_iadd 763 rfl C d_L_law_762 ?_
  refine bv_sld 2 764 rfl C hX (by decide) (by decide) (by decide) d_L_law_763 ?_
  refine bv_aload_n 765 rfl C d_L_law_764 rfl ?_
  refine bv_call (rest := []) 768 rfl C d_L_law_765 (ct_L_address (dd := dd) hlt (by decide) hB (x := xs 1) (y := xs 2)) i_L_address t1_0 (fun H locs ls _ => bs_S (av := [.ref (ad 0), .int (xs 1), .int (xs 2), .ref (ad 323)]) C i_L_address t3_65 t3_66 t1_0 (by decide) rfl rfl d_L_law_765 H locs ls) ⟨by first | decide | omega, by first | decide | omega⟩ (by decide) (by decide) (Nat.le_of_ble_eq_true rfl) (fun v ad1 w1 N1 hpo => ?_) (fun x Cn ad' w' N' hth => hth.elim)
  obtain ⟨rfl, rfl, hk, r, rfl, rfl⟩ := hpo
  refine bv_istore 770 rfl C d_L_law_768 (by decide) ?_
  refine bv_aload_n 771 rfl C d_L_law_770 rfl ?_
  refine bv_aload_n 772 rfl C d_L_law_771 rfl ?_
  refine bv_iload 774 rfl C d_L_law_772 rfl ?_
  refine bv_iconst (v := nI 1) 775 rfl C d_L_law_774 (by decide) ?_
  refine bv_iadd 776 rfl C d_L_law_775 ?_
  refine bv_sld 1 777 rfl C hX (by decide) (by decide) (by decide) d_L_law_776 ?_
  refine bv_aload_n 778 rfl C d_L_law_777 rfl ?_
  refine bv_iload 780 rfl C d_L_law_778 rfl ?_
  refine bv_iconst (v := nI 2) 781 rfl C d_L_law_780 (by decide) ?_
  refine bv_iadd 782 rfl C d_L_law_781 ?_
  refine bv_sld 2 783 rfl C hX (by decide) (by decide) (by decide) d_L_law_782 ?_
  refine bv_call (rest := []) 786 rfl C d_L_law_783 (ct_M_address (dd := dd) (by decide) ((hk 305 (by decide) (by decide)).trans hM.1) ((hk 306 (by decide) (by decide)).trans hM.2.1) (x := xs 1) (y := xs 2)) i_M_address t1_8 (fun H locs ls hP => bs_V (av := [.int (xs 1), .int (xs 2)]) 305 C i_M_address t4_43 t4_44 t4_45 (by decide) rfl ((hk 305 (by decide) (by decide)).trans hM.1) rfl (by decide) rfl rfl d_L_law_783 H locs ls hP) ⟨by first | decide | omega, by first | decide | omega⟩ (by decide) (by decide) (Nat.le_of_ble_eq_true rfl) (fun v ad2 w2 N2 hpo => ?_) (fun x Cn ad' w' N' hth => hth.elim)
  obtain ⟨rfl, rfl, th, ve, wr, cu, dn, hm2, rfl, r, rfl⟩ := hpo
  refine bv_istore 788 rfl C d_L_law_786 (by decide) ?_
  refine bv_aload_n 789 rfl C d_L_law_788 rfl ?_
  refine bv_call (rest := []) 792 rfl C d_L_law_789 (ct_M_thrown (dd := dd) (by decide) hm2) i_M_thrown t1_8 (fun H locs ls hP => bs_V (av := []) 305 C i_M_thrown t3_176 t3_177 t3_178 (by decide) rfl hm2 rfl (by decide) rfl rfl d_L_law_789 H locs ls hP) ⟨by first | decide | omega, by first | decide | omega⟩ (by decide) (by decide) (Nat.le_of_ble_eq_true rfl) (fun v ad4 w4 N4 hpo => ?_) (fun x Cn ad' w' N' hth => hth.elim)
  obtain ⟨rfl, rfl, rfl, rfl⟩ := hpo
  refine bv_iload 794 rfl C d_L_law_792 rfl ?_
  refine bv_icmp_eq 799 797 rfl C d_L_law_794 (by decide) (fun h => ?_) (fun h => absurd rfl h)
  refine bv_iload 801 rfl C d_L_law_799 rfl ?_
  refine bv_if_ne 816 804 rfl C d_L_law_801 (by decide) (fun h => ?_) (fun h => absurd h (show ¬ nI 1 = 0 by decide))
  refine bv_goto 938 C d_L_law_816 (by decide) ?_
  refine bv_wk [(0, .ref b), (4, .int (nI 0))] ⟨rfl, rfl, trivial⟩ ?_
  exact law1_end C hX (by decide) (by decide)
theorem law1_needed {g0 : Nat → Int64} (C : bCx p { frames := 12, cells := 600002, slots := 7302232, locals := 484 } s m args meth c code "BlobStoreLaw" 7 (some .boolean) [] dd A) (hlt : bOff l) (hX : bX b 10 xs s A) (hB : FB dd ad w) (hM : FM dd ad w) (ho : w 323 = aL dd 1 g0) : bV p l e { frames := 12, cells := 600002, slots := 7302232, locals := 484 } s m args below meth c dd A 7 600002 7302232 (fun v _ _ _ => v = some (.int 1)) bNo 819 (bO [(0, .ref b), (1, .ref (ad 0)), (2, .ref (ad 305)), (3, .ref (ad 323)), (4, .int (nI 0))]) [] ad w 324 324 3647 := by
  refine bv_aload_n 820 rfl C d_L_law_819 rfl ?_
  refine bv_aload_n 821 rfl C d_L_law_820 rfl ?_
  refine bv_iload 823 rfl C d_L_law_821 rfl ?_
  refine bv_iconst (v := nI 1) 824 rfl C d_L_law_823 (by decide) ?_
  refine bv_iadd 825 rfl C d_L_law_824 ?_
  refine bv_sld 1 826 rfl C hX (by decide) (by decide) (by decide) d_L_law_825 ?_
  refine bv_call (rest := []) 829 rfl C d_L_law_826 (ct_B_needed (dd := dd) (by decide) hB.1.1 hB.hC (fun _ _ => by decide) (x := xs 1)) i_B_needed t1_1 (fun H locs ls hP => bs_V (av := [.int (xs 1)]) 0 C i_B_needed t1_205 t1_206 t1_207 (by decide) rfl hB.1.1 rfl (by decide) rfl rfl d_L_law_826 H locs ls hP) ⟨by first | decide | omega, by first | decide | omega⟩ (by decide) (by decide) (Nat.le_of_ble_eq_true rfl) (fun v ad1 w1 N1 hpo => ?_) (fun x Cn ad' w' N' hth => hth.elim)
  obtain ⟨rfl, rfl, rfl, rfl⟩ := hpo
  refine bv_aload_n 830 rfl C d_L_law_829 rfl ?_
  refine bv_aload_n 831 rfl C d_L_law_830 rfl ?_
  refine bv_iload 833 rfl C d_L_law_831 rfl ?_
  refine bv_iconst (v := nI 1) 834 rfl C d_L_law_833 (by decide) ?_
  refine bv_iadd 835 rfl C d_L_law_834 ?_
  refine bv_sld 1 836 rfl C hX (by decide) (by decide) (by decide) d_L_law_835 ?_
  refine bv_call (rest := [.int (-1)]) 839 rfl C d_L_law_836 (ct_M_needed (dd := dd) (by decide) hM.1 hM.2.1 (x := xs 1)) i_M_needed t1_8 (fun H locs ls hP => bs_V (av := [.int (xs 1)]) 305 C i_M_needed t4_58 t4_59 t4_60 (by decide) rfl hM.1 rfl (by decide) rfl rfl d_L_law_836 H locs ls hP) ⟨by first | decide | omega, by first | decide | omega⟩ (by decide) (by decide) (Nat.le_of_ble_eq_true rfl) (fun v ad2 w2 N2 hpo => ?_) (fun x Cn ad' w' N' hth => hth.elim)
  obtain ⟨rfl, rfl, th, ve, wr, cu, dn, hm2, rfl⟩ := hpo
  refine bv_icmp_eq 938 842 rfl C d_L_law_839 (by decide) (fun h => ?_) (fun h => absurd rfl h)
  refine bv_wk [(0, .ref b), (4, .int (nI 0))] ⟨rfl, rfl, trivial⟩ ?_
  exact law1_end C hX (by decide) (by decide)
theorem law1_slotOf {g0 : Nat → Int64} (C : bCx p { frames := 12, cells := 600002, slots := 7302232, locals := 484 } s m args meth c code "BlobStoreLaw" 7 (some .boolean) [] dd A) (hlt : bOff l) (hX : bX b 10 xs s A) (hB : FB dd ad w) (hM : FM dd ad w) (ho : w 323 = aL dd 1 g0) : bV p l e { frames := 12, cells := 600002, slots := 7302232, locals := 484 } s m args below meth c dd A 7 600002 7302232 (fun v _ _ _ => v = some (.int 1)) bNo 844 (bO [(0, .ref b), (1, .ref (ad 0)), (2, .ref (ad 305)), (3, .ref (ad 323)), (4, .int (nI 0))]) [] ad w 324 324 3647 := by
  refine bv_aload_n 845 rfl C d_L_law_844 rfl ?_
  refine bv_aload_n 846 rfl C d_L_law_845 rfl ?_
  refine bv_iload 848 rfl C d_L_law_846 rfl ?_
  refine bv_iconst (v := nI 1) 849 rfl C d_L_law_848 (by decide) ?_
  refine bv_iadd 850 rfl C d_L_law_849 ?_
  refine bv_sld 1 851 rfl C hX (by decide) (by decide) (by decide) d_L_law_850 ?_
  refine bv_aload_n 852 rfl C d_L_law_851 rfl ?_
  refine bv_iload 854 rfl C d_L_law_852 rfl ?_
  refine bv_iconst (v := nI 2) 855 rfl C d_L_law_854 (by decide) ?_
  refine bv_iadd 856 rfl C d_L_law_855 ?_
  refine bv_sld 2 857 rfl C hX (by decide) (by decide) (by decide) d_L_law_856 ?_
  refine bv_i2l 858 rfl C d_L_law_857 rfl ?_
  refine bv_bipush (v := nI 32) 860 rfl C d_L_law_858 (by decide) ?_
  refine bv_lshl 861 rfl C d_L_law_860 rfl ?_
  refine bv_aload_n 862 rfl C d_L_law_861 rfl ?_
  refine bv_iload 864 rfl C d_L_law_862 rfl ?_
  refine bv_iconst (v := nI 3) 865 rfl C d_L_law_864 (by decide) ?_
  refine bv_iadd 866 rfl C d_L_law_865 ?_
  refine bv_sld 3 867 rfl C hX (by decide) (by decide) (by decide) d_L_law_866 ?_
  refine bv_i2l 868 rfl C d_L_law_867 rfl ?_
  refine bv_ldc2 871 rfl C t4_70 d_L_law_868 ?_
  refine bv_land 872 rfl C d_L_law_871 ?_
  refine bv_lor 873 rfl C d_L_law_872 ?_
  refine bv_topl (fun u0 _ => ?_)
  refine bv_call (rest := []) 876 rfl C d_L_law_873 (ct_B_slotOf (dd := dd) (by decide) hB.1.1 hB.hC (fun _ _ => by decide) hB.1.2.2.1 hB.1.2.2.2.1 hB.1.2.2.2.2.2.2.1 hB.1.2.2.2.2.2.2.2.1 (n := xs 1) (x := u0)) i_B_slotOf t1_1 (fun H locs ls hP => bs_V (av := [.int (xs 1), .long u0]) 0 C i_B_slotOf t1_233 t1_234 t1_235 (by decide) rfl hB.1.1 rfl (by decide) rfl rfl d_L_law_873 H locs ls hP) ⟨by first | decide | omega, by first | decide | omega⟩ (by decide) (by decide) (Nat.le_of_ble_eq_true rfl) (fun v ad1 w1 N1 hpo => ?_) (fun x Cn ad' w' N' hth => hth.elim)
  obtain ⟨rfl, rfl, hk, rfl⟩ := hpo
  refine bv_aload_n 877 rfl C d_L_law_876 rfl ?_
  refine bv_aload_n 878 rfl C d_L_law_877 rfl ?_
  refine bv_iload 880 rfl C d_L_law_878 rfl ?_
  refine bv_iconst (v := nI 1) 881 rfl C d_L_law_880 (by decide) ?_
  refine bv_iadd 882 rfl C d_L_law_881 ?_
  refine bv_sld 1 883 rfl C hX (by decide) (by decide) (by decide) d_L_law_882 ?_
  refine bv_aload_n 884 rfl C d_L_law_883 rfl ?_
  refine bv_iload 886 rfl C d_L_law_884 rfl ?_
  refine bv_iconst (v := nI 2) 887 rfl C d_L_law_886 (by decide) ?_
  refine bv_iadd 888 rfl C d_L_law_887 ?_
  refine bv_sld 2 889 rfl C hX (by decide) (by decide) (by decide) d_L_law_888 ?_
  refine bv_i2l 890 rfl C d_L_law_889 rfl ?_
  refine bv_bipush (v := nI 32) 892 rfl C d_L_law_890 (by decide) ?_
  refine bv_lshl 893 rfl C d_L_law_892 rfl ?_
  refine bv_aload_n 894 rfl C d_L_law_893 rfl ?_
  refine bv_iload 896 rfl C d_L_law_894 rfl ?_
  refine bv_iconst (v := nI 3) 897 rfl C d_L_law_896 (by decide) ?_
  refine bv_iadd 898 rfl C d_L_law_897 ?_
  refine bv_sld 3 899 rfl C hX (by decide) (by decide) (by decide) d_L_law_898 ?_
  refine bv_i2l 900 rfl C d_L_law_899 rfl ?_
  refine bv_ldc2 903 rfl C t4_70 d_L_law_900 ?_
  refine bv_land 904 rfl C d_L_law_903 ?_
  refine bv_lor 905 rfl C d_L_law_904 ?_
  refine bv_topl (fun v0 _ => ?_)
  refine bv_call (rest := [.int (-1)]) 908 rfl C d_L_law_905 (ct_M_slotOf (dd := dd) (by decide) ((hk 305 (by decide)).trans hM.1) ((hk 306 (by decide)).trans hM.2.1) ((hk 321 (by decide)).trans hM.2.2.2.2.2.2.2.2.2.2.2.2.2.2.2.2.1) (n := xs 1) (x := v0)) i_M_slotOf t1_8 (fun H locs ls hP => bs_V (av := [.int (xs 1), .long v0]) 305 C i_M_slotOf t4_62 t4_63 t4_64 (by decide) rfl ((hk 305 (by decide)).trans hM.1) rfl (by decide) rfl rfl d_L_law_905 H locs ls hP) ⟨by first | decide | omega, by first | decide | omega⟩ (by decide) (by decide) (Nat.le_of_ble_eq_true rfl) (fun v ad2 w2 N2 hpo => ?_) (fun x Cn ad' w' N' hth => hth.elim)
  obtain ⟨rfl, rfl, th, ve, wr, cu, dn, hm2, rfl⟩ := hpo
  refine bv_icmp_eq 938 911 rfl C d_L_law_908 (by decide) (fun h => ?_) (fun h => absurd rfl h)
  refine bv_wk [(0, .ref b), (4, .int (nI 0))] ⟨rfl, rfl, trivial⟩ ?_
  exact law1_end C hX (by decide) (by decide)
theorem law1_state {g0 : Nat → Int64} (C : bCx p { frames := 12, cells := 600002, slots := 7302232, locals := 484 } s m args meth c code "BlobStoreLaw" 7 (some .boolean) [] dd A) (hlt : bOff l) (hX : bX b 10 xs s A) (hB : FB dd ad w) (hM : FM dd ad w) (ho : w 323 = aL dd 1 g0) : bV p l e { frames := 12, cells := 600002, slots := 7302232, locals := 484 } s m args below meth c dd A 7 600002 7302232 (fun v _ _ _ => v = some (.int 1)) bNo 913 (bO [(0, .ref b), (1, .ref (ad 0)), (2, .ref (ad 305)), (3, .ref (ad 323)), (4, .int (nI 0))]) [] ad w 324 324 3647 := by
  refine bv_aload_n 914 rfl C d_L_law_913 rfl ?_
  refine bv_aload_n 915 rfl C d_L_law_914 rfl ?_
  refine bv_iload 917 rfl C d_L_law_915 rfl ?_
  refine bv_iconst (v := nI 1) 918 rfl C d_L_law_917 (by decide) ?_
  refine bv_iadd 919 rfl C d_L_law_918 ?_
  refine bv_sld 1 920 rfl C hX (by decide) (by decide) (by decide) d_L_law_919 ?_
  refine bv_call (rest := []) 923 rfl C d_L_law_920 (ct_B_state (dd := dd) (by decide) hB.1.1 hB.hS (fun _ _ => by decide) hB.1.2.1 hB.hC (fun _ _ => by decide) (x := xs 1)) i_B_state t1_1 (fun H locs ls hP => bs_V (av := [.int (xs 1)]) 0 C i_B_state t2_35 t2_36 t2_37 (by decide) rfl hB.1.1 rfl (by decide) rfl rfl d_L_law_920 H locs ls hP) ⟨by first | decide | omega, by first | decide | omega⟩ (by decide) (by decide) (Nat.le_of_ble_eq_true rfl) (fun v ad1 w1 N1 hpo => ?_) (fun x Cn ad' w' N' hth => hth.elim)
  obtain ⟨rfl, rfl, rfl, rfl⟩ := hpo
  refine bv_aload_n 924 rfl C d_L_law_923 rfl ?_
  refine bv_aload_n 925 rfl C d_L_law_924 rfl ?_
  refine bv_iload 927 rfl C d_L_law_925 rfl ?_
  refine bv_iconst (v := nI 1) 928 rfl C d_L_law_927 (by decide) ?_
  refine bv_iadd 929 rfl C d_L_law_928 ?_
  refine bv_sld 1 930 rfl C hX (by decide) (by decide) (by decide) d_L_law_929 ?_
  refine bv_call (rest := [.int (stv (xs 1))]) 933 rfl C d_L_law_930 (ct_M_state (dd := dd) (by decide) hM.1 hM.2.1 hM.2.2.2.1 (x := xs 1)) i_M_state t1_8 (fun H locs ls hP => bs_V (av := [.int (xs 1)]) 305 C i_M_state t4_66 t4_67 t4_68 (by decide) rfl hM.1 rfl (by decide) rfl rfl d_L_law_930 H locs ls hP) ⟨by first | decide | omega, by first | decide | omega⟩ (by decide) (by decide) (Nat.le_of_ble_eq_true rfl) (fun v ad2 w2 N2 hpo => ?_) (fun x Cn ad' w' N' hth => hth.elim)
  obtain ⟨rfl, rfl, th, ve, wr, cu, dn, hm2, rfl⟩ := hpo
  refine bv_icmp_eq 938 936 rfl C d_L_law_933 (by decide) (fun h => ?_) (fun h => absurd rfl h)
  refine bv_wk [(0, .ref b), (4, .int (nI 0))] ⟨rfl, rfl, trivial⟩ ?_
  exact law1_end C hX (by decide) (by decide)
/-- a script that holds one call -/
theorem law1_call {g0 : Nat → Int64} (C : bCx p { frames := 12, cells := 600002, slots := 7302232, locals := 484 } s m args meth c code "BlobStoreLaw" 7 (some .boolean) [] dd A) (hlt : bOff l) (hX : bX b 10 xs s A) (hB : FB dd ad w) (hM : FM dd ad w) (ho : w 323 = aL dd 1 g0) : bV p l e { frames := 12, cells := 600002, slots := 7302232, locals := 484 } s m args below meth c dd A 7 600002 7302232 (fun v _ _ _ => v = some (.int 1)) bNo 23 (bO [(0, .ref b), (1, .ref (ad 0)), (2, .ref (ad 305)), (3, .ref (ad 323)), (4, .int (nI 0))]) [] ad w 324 324 3647 := by
  refine bv_iload 25 rfl C d_L_law_23 rfl ?_
  refine bv_aload_n 26 rfl C d_L_law_25 rfl ?_
  refine bv_slen 27 rfl C hX d_L_law_26 ?_
  refine bv_bipush (v := nI 10) 29 rfl C d_L_law_27 (by decide) ?_
  refine bv_isub 30 rfl C d_L_law_29 ?_
  refine bv_icmp_gt 944 33 rfl C d_L_law_30 (by decide) (fun h => absurd h (show ¬ nI 10 - nI 10 < nI 0 by decide)) (fun h => ?_)
  refine bv_aload_n 34 rfl C d_L_law_33 rfl ?_
  refine bv_iload 36 rfl C d_L_law_34 rfl ?_
  refine bv_sld 0 37 rfl C hX (by decide) (by decide) (by decide) d_L_law_36 ?_
  refine bv_bipush (v := nI 15) 39 rfl C d_L_law_37 (by decide) ?_
  refine bv_iand 40 rfl C d_L_law_39 ?_
  obtain ⟨j, hj, hje⟩ := pk_andE (xs 0) (m := nI 15) 4 (by decide)
  refine bv_seti (nI j) hje ?_
  rcases (show j = 0 ∨ j = 1 ∨ j = 2 ∨ j = 3 ∨ j = 4 ∨ j = 5 ∨ j = 6 ∨ j = 7 ∨ j = 8 ∨ j = 9 ∨ j = 10 ∨ j = 11 ∨ j = 12 ∨ j = 13 ∨ j = 14 ∨ j = 15 by omega) with rfl | rfl | rfl | rfl | rfl | rfl | rfl | rfl | rfl | rfl | rfl | rfl | rfl | rfl | rfl | rfl
  · refine bv_tabIn 116 C d_L_law_40 (by decide) (by decide) rfl (by decide) ?_
    exact law1_begin C hlt hX hB hM ho
  · refine bv_tabIn 184 C d_L_law_40 (by decide) (by decide) rfl (by decide) ?_
    exact law1_part C hlt hX hB hM ho
  · refine bv_tabIn 404 C d_L_law_40 (by decide) (by decide) rfl (by decide) ?_
    exact law1_complete C hlt hX hB hM ho
  · refine bv_tabIn 460 C d_L_law_40 (by decide) (by decide) rfl (by decide) ?_
    exact law1_abort C hlt hX hB hM ho
  · refine bv_tabIn 496 C d_L_law_40 (by decide) (by decide) rfl (by decide) ?_
    exact law1_delete C hlt hX hB hM ho
  · refine bv_tabIn 559 C d_L_law_40 (by decide) (by decide) rfl (by decide) ?_
    exact law1_collect C hlt hX hB hM ho
  · refine bv_tabIn 603 C d_L_law_40 (by decide) (by decide) rfl (by decide) ?_
    exact law1_cutAfter C hlt hX hB hM ho
  · refine bv_tabIn 639 C d_L_law_40 (by decide) (by decide) rfl (by decide) ?_
    exact law1_recover C hlt hX hB hM ho
  · refine bv_tabIn 652 C d_L_law_40 (by decide) (by decide) rfl (by decide) ?_
    exact law1_latest C hlt hX hB hM ho
  · refine bv_tabIn 689 C d_L_law_40 (by decide) (by decide) rfl (by decide) ?_
    exact law1_size C hlt hX hB hM ho
  · refine bv_tabIn 714 C d_L_law_40 (by decide) (by decide) rfl (by decide) ?_
    exact law1_byteAt C hlt hX hB hM ho
  · refine bv_tabIn 751 C d_L_law_40 (by decide) (by decide) rfl (by decide) ?_
    exact law1_address C hlt hX hB hM ho
  · refine bv_tabIn 819 C d_L_law_40 (by decide) (by decide) rfl (by decide) ?_
    exact law1_needed C hlt hX hB hM ho
  · refine bv_tabIn 844 C d_L_law_40 (by decide) (by decide) rfl (by decide) ?_
    exact law1_slotOf C hlt hX hB hM ho
  · refine bv_tabIn 913 C d_L_law_40 (by decide) (by decide) rfl (by decide) ?_
    exact law1_state C hlt hX hB hM ho
  · refine bv_tabOut 938 C d_L_law_40 (Or.inr (by decide)) (by decide) ?_
    refine bv_wk [(0, .ref b), (4, .int (nI 0))] ⟨rfl, rfl, trivial⟩ ?_
    exact law1_end C hX (by decide) (by decide)
/-- a script of at most ten ints, behind the constructors -/
theorem law1_loop {L : Nat} {g0 : Nat → Int64} (C : bCx p { frames := 12, cells := 600002, slots := 7302232, locals := 484 } s m args meth c code "BlobStoreLaw" 7 (some .boolean) [] dd A) (hlt : bOff l) (hL : L ≤ 10) (hX : bX b L xs s A) (hB : FB dd ad w) (hM : FM dd ad w) (ho : w 323 = aL dd 1 g0) : bV p l e { frames := 12, cells := 600002, slots := 7302232, locals := 484 } s m args below meth c dd A 7 600002 7302232 (fun v _ _ _ => v = some (.int 1)) bNo 23 (bO [(0, .ref b), (1, .ref (ad 0)), (2, .ref (ad 305)), (3, .ref (ad 323)), (4, .int (nI 0))]) [] ad w 324 324 3647 := by
  by_cases hL10 : L = 10
  · subst hL10
    exact law1_call C hlt hX hB hM ho
  refine bv_iload 25 rfl C d_L_law_23 rfl ?_
  refine bv_aload_n 26 rfl C d_L_law_25 rfl ?_
  refine bv_slen 27 rfl C hX d_L_law_26 ?_
  refine bv_bipush (v := nI 10) 29 rfl C d_L_law_27 (by decide) ?_
  refine bv_isub 30 rfl C d_L_law_29 ?_
  refine bv_icmp_gt 944 33 rfl C d_L_law_30 (by decide) (fun h => ?_) (fun h => absurd (show nI L - nI 10 < nI 0 from pk_sneg (by decide) (by omega)) h)
  refine bv_iconst (v := 1) 945 rfl C d_L_law_944 (by decide) ?_
  exact bv_zreturn C rfl (Or.inr rfl) d_L_law_945 (by decide) (by decide) rfl
theorem law1_start {L : Nat} (C : bCx p { frames := 12, cells := 600002, slots := 7302232, locals := 484 } s m args meth c code "BlobStoreLaw" 7 (some .boolean) [] dd A) (hlt : bOff l) (hL : L ≤ 10) (hX : bX b L xs s A) : bV p l e { frames := 12, cells := 600002, slots := 7302232, locals := 484 } s m args below meth c dd A 7 600002 7302232 (fun v _ _ _ => v = some (.int 1)) bNo 0 (bO [(0, .ref b)]) [] ad w 0 0 0 := by
  refine bv_new (fs := [.null,.null,.null,.null,.null,.int 0,.null,.null,.null,.null]) 3 rfl C k_B t1_20 t1_21 t1_1 (by intro j hj; rcases (show j = 0 ∨ j = 1 ∨ j = 2 ∨ j = 3 ∨ j = 4 ∨ j = 5 ∨ j = 6 ∨ j = 7 ∨ j = 8 ∨ j = 9 by omega) with rfl | rfl | rfl | rfl | rfl | rfl | rfl | rfl | rfl | rfl <;> rfl) (by decide) (by decide) d_L_law_0 (fun ad1 had1 => ?_)
  obtain ⟨q0, e0⟩ : ∃ q, ad1 0 = q := ⟨_, rfl⟩
  rw [e0]
  refine bv_dup 4 rfl C d_L_law_3 rfl ?_
  refine bv_call (rest := [.ref q0]) 7 rfl C d_L_law_4 (ct_B_init (dd := dd) (a := q0) e0 (va_up_self _ _ _)) i_B_init t1_1 (fun H locs ls _ => bs_I (av := []) C t1_24 t1_22 t1_23 rfl (by decide) rfl rfl d_L_law_4 H locs ls) ⟨by first | decide | omega, by first | decide | omega⟩ (by decide) (by decide) (Nat.le_of_ble_eq_true rfl) (fun v ad2 w2 N2 hpo => ?_) (fun x Cn ad' w' N' hth => hth.elim)
  obtain ⟨rfl, rfl, h20, hB⟩ := hpo
  refine bv_astore_n 8 rfl C d_L_law_7 (by decide) ?_
  refine bv_new (fs := [.int 0,.null,.null,.null,.null,.null,.null,.null,.int 0,.null,.null,.null,.null,.null,.int 0,.int 0,.int 0,.null,.null,.null,.null,.null]) 11 rfl C k_M t3_89 t3_90 t1_8 (by intro j hj; rcases (show j = 0 ∨ j = 1 ∨ j = 2 ∨ j = 3 ∨ j = 4 ∨ j = 5 ∨ j = 6 ∨ j = 7 ∨ j = 8 ∨ j = 9 ∨ j = 10 ∨ j = 11 ∨ j = 12 ∨ j = 13 ∨ j = 14 ∨ j = 15 ∨ j = 16 ∨ j = 17 ∨ j = 18 ∨ j = 19 ∨ j = 20 ∨ j = 21 by omega) with rfl | rfl | rfl | rfl | rfl | rfl | rfl | rfl | rfl | rfl | rfl | rfl | rfl | rfl | rfl | rfl | rfl | rfl | rfl | rfl | rfl | rfl <;> rfl) (by decide) (by decide) d_L_law_8 (fun ad3 had3 => ?_)
  obtain ⟨q1, e1⟩ : ∃ q, ad3 305 = q := ⟨_, rfl⟩
  rw [e1]
  refine bv_dup 12 rfl C d_L_law_11 rfl ?_
  refine bv_call (rest := [.ref q1]) 15 rfl C d_L_law_12 (ct_M_init (dd := dd) (a := q1) e1 (va_up_self _ _ _)) i_M_init t1_8 (fun H locs ls _ => bs_I (av := []) C t3_93 t3_91 t3_92 rfl (by decide) rfl rfl d_L_law_12 H locs ls) ⟨by first | decide | omega, by first | decide | omega⟩ (by decide) (by decide) (Nat.le_of_ble_eq_true rfl) (fun v ad4 w4 N4 hpo => ?_) (fun x Cn ad' w' N' hth => hth.elim)
  obtain ⟨rfl, rfl, h4a, h4w, hM⟩ := hpo
  refine bv_astore_n 16 rfl C d_L_law_15 (by decide) ?_
  refine bv_iconst (v := nI 1) 17 rfl C d_L_law_16 (by decide) ?_
  refine bv_newa (atype := .long) (ty := .long) (a0 := (1, .inr (.inl (fun _ => 0)))) 1 1 19 rfl C rfl rfl (by intro Cn h; cases h) t3_175 (fun cA => rfl) rfl (by decide) (by decide) (by decide) (by decide) d_L_law_17 (fun ad5 had5 => ?_)
  refine bv_astore_n 20 rfl C d_L_law_19 (by decide) ?_
  refine bv_iconst (v := nI 0) 21 rfl C d_L_law_20 (by decide) ?_
  refine bv_istore 23 rfl C d_L_law_21 (by decide) ?_
  have hB5 : FB dd ad5 (va_up w4 323 (aL dd 1 (fun _ => 0))) := hB.to (fun i hi => (had5 i (by omega)).trans ((h4a i (by omega)).trans (had3 i hi))) (fun i hi => (va_up_ne _ _ (by omega)).trans ((h4w i hi).trans (va_up_ne _ _ (by omega))))
  have hM5 : FM dd ad5 (va_up w4 323 (aL dd 1 (fun _ => 0))) := hM.to (fun i hi => had5 i hi) (fun i _ hi => va_up_ne _ _ (by omega))
  have f0 : q0 = ad5 0 := ((had5 0 (by decide)).trans ((h4a 0 (by decide)).trans ((had3 0 (by decide)).trans (h20.trans e0)))).symm
  have f1 : q1 = ad5 305 := ((had5 305 (by decide)).trans ((h4a 305 (by decide)).trans e1)).symm
  refine bv_wk [(0, .ref b), (1, .ref (ad5 0)), (2, .ref (ad5 305)), (3, .ref (ad5 323)), (4, .int (nI 0))] ⟨rfl, congrArg (fun z => some (Value.ref z)) f0, congrArg (fun z => some (Value.ref z)) f1, rfl, rfl, trivial⟩ ?_
  exact law1_loop C hlt hL hX hB5 hM5 (va_up_self _ _ _)
end bOne

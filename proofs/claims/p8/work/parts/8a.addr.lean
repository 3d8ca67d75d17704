section bQ11
variable {l : Launch} {dd : bD} {ad : Nat → Nat} {w : Nat → va_E}
theorem j_M_turn {x n : Int32} : bK l dd y_M_turn 0 0 0 0 [.int x, .int n] ad w 324 (bSame ad w 324 vI) (bNo) := by
  refine bK.start [(0, .int x), (1, .int n)] (by decide) t4_57 (Nat.le_of_ble_eq_true rfl) rfl (fun p e s m args below meth c A hnm C => ?_)
  refine bv_iload_n 1 rfl C d_M_turn_0 rfl ?_
  refine bv_iload_n 2 rfl C d_M_turn_1 rfl ?_
  refine bv_iushr 3 rfl C d_M_turn_2 rfl ?_
  refine bv_iload_n 4 rfl C d_M_turn_3 rfl ?_
  refine bv_bipush (v := nI 32) 6 rfl C d_M_turn_4 (by decide) ?_
  refine bv_iload_n 7 rfl C d_M_turn_6 rfl ?_
  refine bv_isub 8 rfl C d_M_turn_7 ?_
  refine bv_ishl 9 rfl C d_M_turn_8 ?_
  refine bv_ior 10 rfl C d_M_turn_9 ?_
  exact bv_ireturn C rfl d_M_turn_10 (Nat.le_refl _) (Nat.le_refl _) ⟨rfl, rfl, rfl, _, rfl⟩
theorem j_M_addressOf {i0 : Nat} (hI : II dd ad w) (hi0 : i0 < 48) : bK l dd y_M_addressOf 1 21 0 0 [.ref (ad 305), .int (nI i0)] ad w 324 (bJ dd ad (fun v => v = none)) (bNo) := by
  refine bK.start [(0, .ref (ad 305)), (1, .int (nI i0))] (by decide) t4_54 (Nat.le_of_ble_eq_true rfl) rfl (fun p e s m args below meth c A hnm C => ?_)
  have l454 : ∀ (d i : Nat) (w : Nat → va_E), i + d = 8 → II dd ad w → bV p l e { frames := 1, cells := 0, slots := 0, locals := 21 } s m args below meth c dd A 9 0 0 (bJ dd ad (fun v => v = none)) (bNo) 454 (bO [(0, .ref (ad 305)), (3, .int (nI i))]) [] ad w 324 0 0 := by
    intro d
    induction d with
    | zero =>
      intro i w hi hI
      obtain rfl : i = 8 := by omega
      refine bv_iload_n 455 rfl C d_M_addressOf_454 rfl ?_
      refine bv_bipush (v := nI 8) 457 rfl C d_M_addressOf_455 (by decide) ?_
      refine bv_icmp_ge 484 460 rfl C d_M_addressOf_457 (by decide) (fun h => ?_) (fun h => absurd (nI_le (by decide) (by decide)) h)
      exact bv_return C rfl d_M_addressOf_484 (Nat.le_refl _) (Nat.le_refl _) ⟨rfl, rfl, hI, rfl⟩
    | succ d ih =>
      intro i w hi hI
      obtain ⟨th, V, wr, cu, dn, hV, hd, hm⟩ := hI.k305 (k := 305) (by decide) (by decide)
      obtain ⟨fc, hc⟩ := hI.k318 (k := 318) (by decide) (by decide)
      obtain ⟨fh, hh⟩ := hI.k320 (k := 320) (by decide) (by decide)
      refine bv_iload_n 455 rfl C d_M_addressOf_454 rfl ?_
      refine bv_bipush (v := nI 8) 457 rfl C d_M_addressOf_455 (by decide) ?_
      refine bv_icmp_ge 484 460 rfl C d_M_addressOf_457 (by decide) (fun h => absurd h (nI_ge (by omega) (by decide))) (fun h => ?_)
      refine bv_aload_n 461 rfl C d_M_addressOf_460 rfl ?_
      refine bv_get 305 19 464 rfl C k_M (by omega) rfl hm (by decide) t3_126 rfl d_M_addressOf_461 ?_
      refine bv_iload_n 465 rfl C d_M_addressOf_464 rfl ?_
      refine bv_dup2_11 466 rfl C d_M_addressOf_465 rfl rfl ?_
      refine bv_iald 320 i 467 rfl C (by omega) rfl hh rfl (by omega) (by decide) d_M_addressOf_466 ?_
      refine bv_topi (fun u1 _ => ?_)
      refine bv_aload_n 468 rfl C d_M_addressOf_467 rfl ?_
      refine bv_get 305 17 471 rfl C k_M (by omega) rfl hm (by decide) t3_124 rfl d_M_addressOf_468 ?_
      refine bv_bipush (v := nI 64) 473 rfl C d_M_addressOf_471 (by decide) ?_
      refine bv_iload_n 474 rfl C d_M_addressOf_473 rfl ?_
      refine bv_iadd 475 rfl C d_M_addressOf_474 ?_
      refine bv_iald 318 (64+i) 476 rfl C (by omega) rfl hc (nI_add 64 i) (by omega) (by decide) d_M_addressOf_475 ?_
      refine bv_iadd 477 rfl C d_M_addressOf_476 ?_
      refine bv_iast 320 i 478 rfl C (by omega) rfl hh rfl (by omega) (by decide) d_M_addressOf_477 ?_
      refine bv_any (hI.up ((sh_320 (by decide)).mpr ⟨_, rfl⟩)) (fun w1 hI1 => ?_)
      refine bv_iinc 481 rfl C d_M_addressOf_478 rfl (by first | exact b_inc _ | rfl) (by decide) ?_
      refine bv_goto 454 C d_M_addressOf_481 (by decide) ?_
      refine bv_wk [(0, .ref (ad 305)), (3, .int (nI (i + 1)))] ⟨rfl, rfl, trivial⟩ ?_
      exact ih (i + 1) w1 (by omega) hI1
  have l243 : ∀ (d i : Nat) (w : Nat → va_E), i + d = 64 → II dd ad w → bV p l e { frames := 1, cells := 0, slots := 0, locals := 21 } s m args below meth c dd A 9 0 0 (bJ dd ad (fun v => v = none)) (bNo) 243 (bO [(0, .ref (ad 305)), (3, .int (nI i))]) [] ad w 324 0 0 := by
    intro d
    induction d with
    | zero =>
      intro i w hi hI
      obtain rfl : i = 64 := by omega
      refine bv_iload_n 244 rfl C d_M_addressOf_243 rfl ?_
      refine bv_bipush (v := nI 64) 246 rfl C d_M_addressOf_244 (by decide) ?_
      refine bv_icmp_ge 452 249 rfl C d_M_addressOf_246 (by decide) (fun h => ?_) (fun h => absurd (nI_le (by decide) (by decide)) h)
      refine bv_iconst (v := nI 0) 453 rfl C d_M_addressOf_452 (by decide) ?_
      refine bv_istore_n 454 rfl C d_M_addressOf_453 (by decide) ?_
      refine bv_wk [(0, .ref (ad 305)), (3, .int (nI 0))] ⟨rfl, rfl, trivial⟩ ?_
      exact l454 8 0 w (by omega) hI
    | succ d ih =>
      intro i w hi hI
      obtain ⟨th, V, wr, cu, dn, hV, hd, hm⟩ := hI.k305 (k := 305) (by decide) (by decide)
      obtain ⟨fc, hc⟩ := hI.k318 (k := 318) (by decide) (by decide)
      obtain ⟨fs, hs⟩ := hI.k319 (k := 319) (by decide) (by decide)
      obtain ⟨fh, hh⟩ := hI.k320 (k := 320) (by decide) (by decide)
      refine bv_iload_n 244 rfl C d_M_addressOf_243 rfl ?_
      refine bv_bipush (v := nI 64) 246 rfl C d_M_addressOf_244 (by decide) ?_
      refine bv_icmp_ge 452 249 rfl C d_M_addressOf_246 (by decide) (fun h => absurd h (nI_ge (by omega) (by decide))) (fun h => ?_)
      refine bv_aload_n 250 rfl C d_M_addressOf_249 rfl ?_
      refine bv_get 305 19 253 rfl C k_M (by omega) rfl hm (by decide) t3_126 rfl d_M_addressOf_250 ?_
      refine bv_iconst (v := nI 4) 254 rfl C d_M_addressOf_253 (by decide) ?_
      refine bv_iald 320 4 255 rfl C (by omega) rfl hh rfl (by decide) (by decide) d_M_addressOf_254 ?_
      refine bv_topi (fun e4 _ => ?_)
      refine bv_istore 257 rfl C d_M_addressOf_255 (by decide) ?_
      refine bv_aload_n 258 rfl C d_M_addressOf_257 rfl ?_
      refine bv_get 305 19 261 rfl C k_M (by omega) rfl hm (by decide) t3_126 rfl d_M_addressOf_258 ?_
      refine bv_iconst (v := nI 0) 262 rfl C d_M_addressOf_261 (by decide) ?_
      refine bv_iald 320 0 263 rfl C (by omega) rfl hh rfl (by decide) (by decide) d_M_addressOf_262 ?_
      refine bv_topi (fun a5 _ => ?_)
      refine bv_istore 265 rfl C d_M_addressOf_263 (by decide) ?_
      refine bv_aload_n 266 rfl C d_M_addressOf_265 rfl ?_
      refine bv_get 305 19 269 rfl C k_M (by omega) rfl hm (by decide) t3_126 rfl d_M_addressOf_266 ?_
      refine bv_bipush (v := nI 7) 271 rfl C d_M_addressOf_269 (by decide) ?_
      refine bv_iald 320 7 272 rfl C (by omega) rfl hh rfl (by decide) (by decide) d_M_addressOf_271 ?_
      refine bv_topi (fun h7 _ => ?_)
      refine bv_iload 274 rfl C d_M_addressOf_272 rfl ?_
      refine bv_bipush (v := nI 6) 276 rfl C d_M_addressOf_274 (by decide) ?_
      refine bv_call (rest := [.int h7]) 279 rfl C d_M_addressOf_276 (j_M_turn (x := e4) (n := nI 6)) i_M_turn t1_8 (fun H locs ls _ => bs_S (av := [.int e4, .int (nI 6)]) C i_M_turn t4_55 t4_56 t1_8 (by decide) rfl rfl d_M_addressOf_276 H locs ls) ⟨by first | decide | omega, by first | decide | omega⟩ (by decide) (by decide) (Nat.le_of_ble_eq_true rfl) (fun v ad1 w1 N1 hpo => ?_) (fun x Cn ad' w' N' hth => hth.elim)
      obtain ⟨rfl, rfl, rfl, r1, rfl⟩ := hpo
      refine bv_iload 281 rfl C d_M_addressOf_279 rfl ?_
      refine bv_bipush (v := nI 11) 283 rfl C d_M_addressOf_281 (by decide) ?_
      refine bv_call (rest := [.int r1, .int h7]) 286 rfl C d_M_addressOf_283 (j_M_turn (x := e4) (n := nI 11)) i_M_turn t1_8 (fun H locs ls _ => bs_S (av := [.int e4, .int (nI 11)]) C i_M_turn t4_55 t4_56 t1_8 (by decide) rfl rfl d_M_addressOf_283 H locs ls) ⟨by first | decide | omega, by first | decide | omega⟩ (by decide) (by decide) (Nat.le_of_ble_eq_true rfl) (fun v ad1 w1 N1 hpo => ?_) (fun x Cn ad' w' N' hth => hth.elim)
      obtain ⟨rfl, rfl, rfl, r2, rfl⟩ := hpo
      refine bv_ixor 287 rfl C d_M_addressOf_286 ?_
      refine bv_topi (fun x1 _ => ?_)
      refine bv_iload 289 rfl C d_M_addressOf_287 rfl ?_
      refine bv_bipush (v := nI 25) 291 rfl C d_M_addressOf_289 (by decide) ?_
      refine bv_call (rest := [.int x1, .int h7]) 294 rfl C d_M_addressOf_291 (j_M_turn (x := e4) (n := nI 25)) i_M_turn t1_8 (fun H locs ls _ => bs_S (av := [.int e4, .int (nI 25)]) C i_M_turn t4_55 t4_56 t1_8 (by decide) rfl rfl d_M_addressOf_291 H locs ls) ⟨by first | decide | omega, by first | decide | omega⟩ (by decide) (by decide) (Nat.le_of_ble_eq_true rfl) (fun v ad1 w1 N1 hpo => ?_) (fun x Cn ad' w' N' hth => hth.elim)
      obtain ⟨rfl, rfl, rfl, r3, rfl⟩ := hpo
      refine bv_ixor 295 rfl C d_M_addressOf_294 ?_
      refine bv_iadd 296 rfl C d_M_addressOf_295 ?_
      refine bv_topi (fun x2 _ => ?_)
      refine bv_iload 298 rfl C d_M_addressOf_296 rfl ?_
      refine bv_aload_n 299 rfl C d_M_addressOf_298 rfl ?_
      refine bv_get 305 19 302 rfl C k_M (by omega) rfl hm (by decide) t3_126 rfl d_M_addressOf_299 ?_
      refine bv_iconst (v := nI 5) 303 rfl C d_M_addressOf_302 (by decide) ?_
      refine bv_iald 320 5 304 rfl C (by omega) rfl hh rfl (by decide) (by decide) d_M_addressOf_303 ?_
      refine bv_iand 305 rfl C d_M_addressOf_304 ?_
      refine bv_topi (fun x3 _ => ?_)
      refine bv_iload 307 rfl C d_M_addressOf_305 rfl ?_
      refine bv_iconst (v := -1) 308 rfl C d_M_addressOf_307 (by decide) ?_
      refine bv_ixor 309 rfl C d_M_addressOf_308 ?_
      refine bv_topi (fun x4 _ => ?_)
      refine bv_aload_n 310 rfl C d_M_addressOf_309 rfl ?_
      refine bv_get 305 19 313 rfl C k_M (by omega) rfl hm (by decide) t3_126 rfl d_M_addressOf_310 ?_
      refine bv_bipush (v := nI 6) 315 rfl C d_M_addressOf_313 (by decide) ?_
      refine bv_iald 320 6 316 rfl C (by omega) rfl hh rfl (by decide) (by decide) d_M_addressOf_315 ?_
      refine bv_iand 317 rfl C d_M_addressOf_316 ?_
      refine bv_ixor 318 rfl C d_M_addressOf_317 ?_
      refine bv_iadd 319 rfl C d_M_addressOf_318 ?_
      refine bv_topi (fun x5 _ => ?_)
      refine bv_aload_n 320 rfl C d_M_addressOf_319 rfl ?_
      refine bv_get 305 17 323 rfl C k_M (by omega) rfl hm (by decide) t3_124 rfl d_M_addressOf_320 ?_
      refine bv_iload_n 324 rfl C d_M_addressOf_323 rfl ?_
      refine bv_iald 318 i 325 rfl C (by omega) rfl hc rfl (by omega) (by decide) d_M_addressOf_324 ?_
      refine bv_iadd 326 rfl C d_M_addressOf_325 ?_
      refine bv_topi (fun x6 _ => ?_)
      refine bv_aload_n 327 rfl C d_M_addressOf_326 rfl ?_
      refine bv_get 305 18 330 rfl C k_M (by omega) rfl hm (by decide) t3_125 rfl d_M_addressOf_327 ?_
      refine bv_iload_n 331 rfl C d_M_addressOf_330 rfl ?_
      refine bv_iald 319 i 332 rfl C (by omega) rfl hs rfl (by omega) (by decide) d_M_addressOf_331 ?_
      refine bv_iadd 333 rfl C d_M_addressOf_332 ?_
      refine bv_topi (fun one _ => ?_)
      refine bv_istore 335 rfl C d_M_addressOf_333 (by decide) ?_
      refine bv_iload 337 rfl C d_M_addressOf_335 rfl ?_
      refine bv_iconst (v := nI 2) 338 rfl C d_M_addressOf_337 (by decide) ?_
      refine bv_call (rest := []) 341 rfl C d_M_addressOf_338 (j_M_turn (x := a5) (n := nI 2)) i_M_turn t1_8 (fun H locs ls _ => bs_S (av := [.int a5, .int (nI 2)]) C i_M_turn t4_55 t4_56 t1_8 (by decide) rfl rfl d_M_addressOf_338 H locs ls) ⟨by first | decide | omega, by first | decide | omega⟩ (by decide) (by decide) (Nat.le_of_ble_eq_true rfl) (fun v ad1 w1 N1 hpo => ?_) (fun x Cn ad' w' N' hth => hth.elim)
      obtain ⟨rfl, rfl, rfl, r4, rfl⟩ := hpo
      refine bv_iload 343 rfl C d_M_addressOf_341 rfl ?_
      refine bv_bipush (v := nI 13) 345 rfl C d_M_addressOf_343 (by decide) ?_
      refine bv_call (rest := [.int r4]) 348 rfl C d_M_addressOf_345 (j_M_turn (x := a5) (n := nI 13)) i_M_turn t1_8 (fun H locs ls _ => bs_S (av := [.int a5, .int (nI 13)]) C i_M_turn t4_55 t4_56 t1_8 (by decide) rfl rfl d_M_addressOf_345 H locs ls) ⟨by first | decide | omega, by first | decide | omega⟩ (by decide) (by decide) (Nat.le_of_ble_eq_true rfl) (fun v ad1 w1 N1 hpo => ?_) (fun x Cn ad' w' N' hth => hth.elim)
      obtain ⟨rfl, rfl, rfl, r5, rfl⟩ := hpo
      refine bv_ixor 349 rfl C d_M_addressOf_348 ?_
      refine bv_topi (fun x7 _ => ?_)
      refine bv_iload 351 rfl C d_M_addressOf_349 rfl ?_
      refine bv_bipush (v := nI 22) 353 rfl C d_M_addressOf_351 (by decide) ?_
      refine bv_call (rest := [.int x7]) 356 rfl C d_M_addressOf_353 (j_M_turn (x := a5) (n := nI 22)) i_M_turn t1_8 (fun H locs ls _ => bs_S (av := [.int a5, .int (nI 22)]) C i_M_turn t4_55 t4_56 t1_8 (by decide) rfl rfl d_M_addressOf_353 H locs ls) ⟨by first | decide | omega, by first | decide | omega⟩ (by decide) (by decide) (Nat.le_of_ble_eq_true rfl) (fun v ad1 w1 N1 hpo => ?_) (fun x Cn ad' w' N' hth => hth.elim)
      obtain ⟨rfl, rfl, rfl, r6, rfl⟩ := hpo
      refine bv_ixor 357 rfl C d_M_addressOf_356 ?_
      refine bv_topi (fun x8 _ => ?_)
      refine bv_iload 359 rfl C d_M_addressOf_357 rfl ?_
      refine bv_aload_n 360 rfl C d_M_addressOf_359 rfl ?_
      refine bv_get 305 19 363 rfl C k_M (by omega) rfl hm (by decide) t3_126 rfl d_M_addressOf_360 ?_
      refine bv_iconst (v := nI 1) 364 rfl C d_M_addressOf_363 (by decide) ?_
      refine bv_iald 320 1 365 rfl C (by omega) rfl hh rfl (by decide) (by decide) d_M_addressOf_364 ?_
      refine bv_iand 366 rfl C d_M_addressOf_365 ?_
      refine bv_topi (fun x9 _ => ?_)
      refine bv_iload 368 rfl C d_M_addressOf_366 rfl ?_
      refine bv_aload_n 369 rfl C d_M_addressOf_368 rfl ?_
      refine bv_get 305 19 372 rfl C k_M (by omega) rfl hm (by decide) t3_126 rfl d_M_addressOf_369 ?_
      refine bv_iconst (v := nI 2) 373 rfl C d_M_addressOf_372 (by decide) ?_
      refine bv_iald 320 2 374 rfl C (by omega) rfl hh rfl (by decide) (by decide) d_M_addressOf_373 ?_
      refine bv_iand 375 rfl C d_M_addressOf_374 ?_
      refine bv_ixor 376 rfl C d_M_addressOf_375 ?_
      refine bv_topi (fun x10 _ => ?_)
      refine bv_aload_n 377 rfl C d_M_addressOf_376 rfl ?_
      refine bv_get 305 19 380 rfl C k_M (by omega) rfl hm (by decide) t3_126 rfl d_M_addressOf_377 ?_
      refine bv_iconst (v := nI 1) 381 rfl C d_M_addressOf_380 (by decide) ?_
      refine bv_iald 320 1 382 rfl C (by omega) rfl hh rfl (by decide) (by decide) d_M_addressOf_381 ?_
      refine bv_topi (fun x11 _ => ?_)
      refine bv_aload_n 383 rfl C d_M_addressOf_382 rfl ?_
      refine bv_get 305 19 386 rfl C k_M (by omega) rfl hm (by decide) t3_126 rfl d_M_addressOf_383 ?_
      refine bv_iconst (v := nI 2) 387 rfl C d_M_addressOf_386 (by decide) ?_
      refine bv_iald 320 2 388 rfl C (by omega) rfl hh rfl (by decide) (by decide) d_M_addressOf_387 ?_
      refine bv_iand 389 rfl C d_M_addressOf_388 ?_
      refine bv_ixor 390 rfl C d_M_addressOf_389 ?_
      refine bv_iadd 391 rfl C d_M_addressOf_390 ?_
      refine bv_topi (fun two _ => ?_)
      have sh : ∀ (j : Nat) (w : Nat → va_E), j ≤ 7 → II dd ad w → bV p l e { frames := 1, cells := 0, slots := 0, locals := 21 } s m args below meth c dd A 9 0 0 (bJ dd ad (fun v => v = none)) (bNo) 397 (bO [(0, .ref (ad 305)), (3, .int (nI i)), (6, .int one), (7, .int two), (8, .int (nI j))]) [] ad w 324 0 0 := by
        intro j
        induction j with
        | zero =>
          intro w hj hI
          obtain ⟨th, V, wr, cu, dn, hV, hd, hm⟩ := hI.k305 (k := 305) (by decide) (by decide)
          obtain ⟨fh, hh⟩ := hI.k320 (k := 320) (by decide) (by decide)
          refine bv_iload 399 rfl C d_M_addressOf_397 rfl ?_
          refine bv_if_le 424 402 rfl C d_M_addressOf_399 (by decide) (fun h => ?_) (fun h => absurd (show nI 0 ≤ (0 : Int32) by decide) h)
          refine bv_aload_n 425 rfl C d_M_addressOf_424 rfl ?_
          refine bv_get 305 19 428 rfl C k_M (by omega) rfl hm (by decide) t3_126 rfl d_M_addressOf_425 ?_
          refine bv_iconst (v := nI 4) 429 rfl C d_M_addressOf_428 (by decide) ?_
          refine bv_dup2_11 430 rfl C d_M_addressOf_429 rfl rfl ?_
          refine bv_iald 320 4 431 rfl C (by omega) rfl hh rfl (by decide) (by decide) d_M_addressOf_430 ?_
          refine bv_iload 433 rfl C d_M_addressOf_431 rfl ?_
          refine bv_iadd 434 rfl C d_M_addressOf_433 ?_
          refine bv_iast 320 4 435 rfl C (by omega) rfl hh rfl (by decide) (by decide) d_M_addressOf_434 ?_
          refine bv_any (hI.up ((sh_320 (by decide)).mpr ⟨_, rfl⟩)) (fun w1 hI1 => ?_)
          obtain ⟨th, V, wr, cu, dn, hV, hd, hm⟩ := hI1.k305 (k := 305) (by decide) (by decide)
          obtain ⟨fh, hh⟩ := hI1.k320 (k := 320) (by decide) (by decide)
          refine bv_aload_n 436 rfl C d_M_addressOf_435 rfl ?_
          refine bv_get 305 19 439 rfl C k_M (by omega) rfl hm (by decide) t3_126 rfl d_M_addressOf_436 ?_
          refine bv_iconst (v := nI 0) 440 rfl C d_M_addressOf_439 (by decide) ?_
          refine bv_iload 442 rfl C d_M_addressOf_440 rfl ?_
          refine bv_iload 444 rfl C d_M_addressOf_442 rfl ?_
          refine bv_iadd 445 rfl C d_M_addressOf_444 ?_
          refine bv_iast 320 0 446 rfl C (by omega) rfl hh rfl (by decide) (by decide) d_M_addressOf_445 ?_
          refine bv_any (hI1.up ((sh_320 (by decide)).mpr ⟨_, rfl⟩)) (fun w1 hI1 => ?_)
          refine bv_iinc 449 rfl C d_M_addressOf_446 rfl (by first | exact b_inc _ | rfl) (by decide) ?_
          refine bv_goto 243 C d_M_addressOf_449 (by decide) ?_
          refine bv_wk [(0, .ref (ad 305)), (3, .int (nI (i + 1)))] ⟨rfl, rfl, trivial⟩ ?_
          exact ih (i + 1) w1 (by omega) hI1
        | succ j ihj =>
          intro w hj hI
          obtain ⟨th, V, wr, cu, dn, hV, hd, hm⟩ := hI.k305 (k := 305) (by decide) (by decide)
          obtain ⟨fh, hh⟩ := hI.k320 (k := 320) (by decide) (by decide)
          refine bv_iload 399 rfl C d_M_addressOf_397 rfl ?_
          refine bv_if_le 424 402 rfl C d_M_addressOf_399 (by decide) (fun h => absurd h (nI_nle (show 0 < j + 1 by omega) (by omega))) (fun h => ?_)
          refine bv_aload_n 403 rfl C d_M_addressOf_402 rfl ?_
          refine bv_get 305 19 406 rfl C k_M (by omega) rfl hm (by decide) t3_126 rfl d_M_addressOf_403 ?_
          refine bv_iload 408 rfl C d_M_addressOf_406 rfl ?_
          refine bv_aload_n 409 rfl C d_M_addressOf_408 rfl ?_
          refine bv_get 305 19 412 rfl C k_M (by omega) rfl hm (by decide) t3_126 rfl d_M_addressOf_409 ?_
          refine bv_iload 414 rfl C d_M_addressOf_412 rfl ?_
          refine bv_iconst (v := nI 1) 415 rfl C d_M_addressOf_414 (by decide) ?_
          refine bv_isub 416 rfl C d_M_addressOf_415 ?_
          refine bv_iald 320 j 417 rfl C (by omega) rfl hh (by rw [pk_sub (by omega)]; rfl) (by omega) (by decide) d_M_addressOf_416 ?_
          refine bv_iast 320 (j+1) 418 rfl C (by omega) rfl hh rfl (by omega) (by decide) d_M_addressOf_417 ?_
          refine bv_any (hI.up ((sh_320 (by decide)).mpr ⟨_, rfl⟩)) (fun w1 hI1 => ?_)
          refine bv_iinc (v := (nI j)) 421 rfl C d_M_addressOf_418 rfl (pk_m1 j) (by decide) ?_
          refine bv_goto 397 C d_M_addressOf_421 (by decide) ?_
          refine bv_wk [(0, .ref (ad 305)), (3, .int (nI i)), (6, .int one), (7, .int two), (8, .int (nI j))] ⟨rfl, rfl, rfl, rfl, rfl, trivial⟩ ?_
          exact ihj w1 (by omega) hI1
      refine bv_istore 393 rfl C d_M_addressOf_391 (by decide) ?_
      refine bv_bipush (v := nI 7) 395 rfl C d_M_addressOf_393 (by decide) ?_
      refine bv_istore 397 rfl C d_M_addressOf_395 (by decide) ?_
      refine bv_wk [(0, .ref (ad 305)), (3, .int (nI i)), (6, .int one), (7, .int two), (8, .int (nI 7))] ⟨rfl, rfl, rfl, rfl, rfl, trivial⟩ ?_
      exact sh 7 w (by decide) hI
  have l214 : ∀ (d i : Nat) (w : Nat → va_E), i + d = 8 → II dd ad w → bV p l e { frames := 1, cells := 0, slots := 0, locals := 21 } s m args below meth c dd A 9 0 0 (bJ dd ad (fun v => v = none)) (bNo) 214 (bO [(0, .ref (ad 305)), (3, .int (nI i))]) [] ad w 324 0 0 := by
    intro d
    induction d with
    | zero =>
      intro i w hi hI
      obtain rfl : i = 8 := by omega
      refine bv_iload_n 215 rfl C d_M_addressOf_214 rfl ?_
      refine bv_bipush (v := nI 8) 217 rfl C d_M_addressOf_215 (by decide) ?_
      refine bv_icmp_ge 241 220 rfl C d_M_addressOf_217 (by decide) (fun h => ?_) (fun h => absurd (nI_le (by decide) (by decide)) h)
      refine bv_iconst (v := nI 0) 242 rfl C d_M_addressOf_241 (by decide) ?_
      refine bv_istore_n 243 rfl C d_M_addressOf_242 (by decide) ?_
      refine bv_wk [(0, .ref (ad 305)), (3, .int (nI 0))] ⟨rfl, rfl, trivial⟩ ?_
      exact l243 64 0 w (by omega) hI
    | succ d ih =>
      intro i w hi hI
      obtain ⟨th, V, wr, cu, dn, hV, hd, hm⟩ := hI.k305 (k := 305) (by decide) (by decide)
      obtain ⟨fc, hc⟩ := hI.k318 (k := 318) (by decide) (by decide)
      obtain ⟨fh, hh⟩ := hI.k320 (k := 320) (by decide) (by decide)
      refine bv_iload_n 215 rfl C d_M_addressOf_214 rfl ?_
      refine bv_bipush (v := nI 8) 217 rfl C d_M_addressOf_215 (by decide) ?_
      refine bv_icmp_ge 241 220 rfl C d_M_addressOf_217 (by decide) (fun h => absurd h (nI_ge (by omega) (by decide))) (fun h => ?_)
      refine bv_aload_n 221 rfl C d_M_addressOf_220 rfl ?_
      refine bv_get 305 19 224 rfl C k_M (by omega) rfl hm (by decide) t3_126 rfl d_M_addressOf_221 ?_
      refine bv_iload_n 225 rfl C d_M_addressOf_224 rfl ?_
      refine bv_aload_n 226 rfl C d_M_addressOf_225 rfl ?_
      refine bv_get 305 17 229 rfl C k_M (by omega) rfl hm (by decide) t3_124 rfl d_M_addressOf_226 ?_
      refine bv_bipush (v := nI 64) 231 rfl C d_M_addressOf_229 (by decide) ?_
      refine bv_iload_n 232 rfl C d_M_addressOf_231 rfl ?_
      refine bv_iadd 233 rfl C d_M_addressOf_232 ?_
      refine bv_iald 318 (64+i) 234 rfl C (by omega) rfl hc (nI_add 64 i) (by omega) (by decide) d_M_addressOf_233 ?_
      refine bv_iast 320 i 235 rfl C (by omega) rfl hh rfl (by omega) (by decide) d_M_addressOf_234 ?_
      refine bv_any (hI.up ((sh_320 (by decide)).mpr ⟨_, rfl⟩)) (fun w1 hI1 => ?_)
      refine bv_iinc 238 rfl C d_M_addressOf_235 rfl (by first | exact b_inc _ | rfl) (by decide) ?_
      refine bv_goto 214 C d_M_addressOf_238 (by decide) ?_
      refine bv_wk [(0, .ref (ad 305)), (3, .int (nI (i + 1)))] ⟨rfl, rfl, trivial⟩ ?_
      exact ih (i + 1) w1 (by omega) hI1
  have l111 : ∀ (d i : Nat) (w : Nat → va_E), i + d = 64 → II dd ad w → 16 ≤ i → bV p l e { frames := 1, cells := 0, slots := 0, locals := 21 } s m args below meth c dd A 9 0 0 (bJ dd ad (fun v => v = none)) (bNo) 111 (bO [(0, .ref (ad 305)), (3, .int (nI i))]) [] ad w 324 0 0 := by
    intro d
    induction d with
    | zero =>
      intro i w hi hI h16
      obtain rfl : i = 64 := by omega
      refine bv_iload_n 112 rfl C d_M_addressOf_111 rfl ?_
      refine bv_bipush (v := nI 64) 114 rfl C d_M_addressOf_112 (by decide) ?_
      refine bv_icmp_ge 212 117 rfl C d_M_addressOf_114 (by decide) (fun h => ?_) (fun h => absurd (nI_le (by decide) (by decide)) h)
      refine bv_iconst (v := nI 0) 213 rfl C d_M_addressOf_212 (by decide) ?_
      refine bv_istore_n 214 rfl C d_M_addressOf_213 (by decide) ?_
      refine bv_wk [(0, .ref (ad 305)), (3, .int (nI 0))] ⟨rfl, rfl, trivial⟩ ?_
      exact l214 8 0 w (by omega) hI
    | succ d ih =>
      intro i w hi hI h16
      obtain ⟨th, V, wr, cu, dn, hV, hd, hm⟩ := hI.k305 (k := 305) (by decide) (by decide)
      obtain ⟨fs, hs⟩ := hI.k319 (k := 319) (by decide) (by decide)
      refine bv_iload_n 112 rfl C d_M_addressOf_111 rfl ?_
      refine bv_bipush (v := nI 64) 114 rfl C d_M_addressOf_112 (by decide) ?_
      refine bv_icmp_ge 212 117 rfl C d_M_addressOf_114 (by decide) (fun h => absurd h (nI_ge (by omega) (by decide))) (fun h => ?_)
      refine bv_aload_n 118 rfl C d_M_addressOf_117 rfl ?_
      refine bv_get 305 18 121 rfl C k_M (by omega) rfl hm (by decide) t3_125 rfl d_M_addressOf_118 ?_
      refine bv_iload_n 122 rfl C d_M_addressOf_121 rfl ?_
      refine bv_bipush (v := nI 15) 124 rfl C d_M_addressOf_122 (by decide) ?_
      refine bv_isub 125 rfl C d_M_addressOf_124 ?_
      refine bv_iald 319 (i-15) 126 rfl C (by omega) rfl hs (pk_sub (by omega)) (by omega) (by decide) d_M_addressOf_125 ?_
      refine bv_topi (fun a4 _ => ?_)
      refine bv_istore 128 rfl C d_M_addressOf_126 (by decide) ?_
      refine bv_aload_n 129 rfl C d_M_addressOf_128 rfl ?_
      refine bv_get 305 18 132 rfl C k_M (by omega) rfl hm (by decide) t3_125 rfl d_M_addressOf_129 ?_
      refine bv_iload_n 133 rfl C d_M_addressOf_132 rfl ?_
      refine bv_iconst (v := nI 2) 134 rfl C d_M_addressOf_133 (by decide) ?_
      refine bv_isub 135 rfl C d_M_addressOf_134 ?_
      refine bv_iald 319 (i-2) 136 rfl C (by omega) rfl hs (pk_sub (by omega)) (by omega) (by decide) d_M_addressOf_135 ?_
      refine bv_topi (fun b5 _ => ?_)
      refine bv_istore 138 rfl C d_M_addressOf_136 (by decide) ?_
      refine bv_aload_n 139 rfl C d_M_addressOf_138 rfl ?_
      refine bv_get 305 18 142 rfl C k_M (by omega) rfl hm (by decide) t3_125 rfl d_M_addressOf_139 ?_
      refine bv_iload_n 143 rfl C d_M_addressOf_142 rfl ?_
      refine bv_aload_n 144 rfl C d_M_addressOf_143 rfl ?_
      refine bv_get 305 18 147 rfl C k_M (by omega) rfl hm (by decide) t3_125 rfl d_M_addressOf_144 ?_
      refine bv_iload_n 148 rfl C d_M_addressOf_147 rfl ?_
      refine bv_bipush (v := nI 16) 150 rfl C d_M_addressOf_148 (by decide) ?_
      refine bv_isub 151 rfl C d_M_addressOf_150 ?_
      refine bv_iald 319 (i-16) 152 rfl C (by omega) rfl hs (pk_sub (by omega)) (by omega) (by decide) d_M_addressOf_151 ?_
      refine bv_topi (fun s16 _ => ?_)
      refine bv_iload 154 rfl C d_M_addressOf_152 rfl ?_
      refine bv_bipush (v := nI 7) 156 rfl C d_M_addressOf_154 (by decide) ?_
      refine bv_call (rest := [.int s16, .int (nI i), .ref (ad 319)]) 159 rfl C d_M_addressOf_156 (j_M_turn (x := a4) (n := nI 7)) i_M_turn t1_8 (fun H locs ls _ => bs_S (av := [.int a4, .int (nI 7)]) C i_M_turn t4_55 t4_56 t1_8 (by decide) rfl rfl d_M_addressOf_156 H locs ls) ⟨by first | decide | omega, by first | decide | omega⟩ (by decide) (by decide) (Nat.le_of_ble_eq_true rfl) (fun v ad1 w1 N1 hpo => ?_) (fun x Cn ad' w' N' hth => hth.elim)
      obtain ⟨rfl, rfl, rfl, r1, rfl⟩ := hpo
      refine bv_iload 161 rfl C d_M_addressOf_159 rfl ?_
      refine bv_bipush (v := nI 18) 163 rfl C d_M_addressOf_161 (by decide) ?_
      refine bv_call (rest := [.int r1, .int s16, .int (nI i), .ref (ad 319)]) 166 rfl C d_M_addressOf_163 (j_M_turn (x := a4) (n := nI 18)) i_M_turn t1_8 (fun H locs ls _ => bs_S (av := [.int a4, .int (nI 18)]) C i_M_turn t4_55 t4_56 t1_8 (by decide) rfl rfl d_M_addressOf_163 H locs ls) ⟨by first | decide | omega, by first | decide | omega⟩ (by decide) (by decide) (Nat.le_of_ble_eq_true rfl) (fun v ad1 w1 N1 hpo => ?_) (fun x Cn ad' w' N' hth => hth.elim)
      obtain ⟨rfl, rfl, rfl, r2, rfl⟩ := hpo
      refine bv_ixor 167 rfl C d_M_addressOf_166 ?_
      refine bv_iload 169 rfl C d_M_addressOf_167 rfl ?_
      refine bv_iconst (v := nI 3) 170 rfl C d_M_addressOf_169 (by decide) ?_
      refine bv_iushr 171 rfl C d_M_addressOf_170 rfl ?_
      refine bv_ixor 172 rfl C d_M_addressOf_171 ?_
      refine bv_iadd 173 rfl C d_M_addressOf_172 ?_
      refine bv_topi (fun y1 _ => ?_)
      refine bv_aload_n 174 rfl C d_M_addressOf_173 rfl ?_
      refine bv_get 305 18 177 rfl C k_M (by omega) rfl hm (by decide) t3_125 rfl d_M_addressOf_174 ?_
      refine bv_iload_n 178 rfl C d_M_addressOf_177 rfl ?_
      refine bv_bipush (v := nI 7) 180 rfl C d_M_addressOf_178 (by decide) ?_
      refine bv_isub 181 rfl C d_M_addressOf_180 ?_
      refine bv_iald 319 (i-7) 182 rfl C (by omega) rfl hs (pk_sub (by omega)) (by omega) (by decide) d_M_addressOf_181 ?_
      refine bv_iadd 183 rfl C d_M_addressOf_182 ?_
      refine bv_topi (fun y2 _ => ?_)
      refine bv_iload 185 rfl C d_M_addressOf_183 rfl ?_
      refine bv_bipush (v := nI 17) 187 rfl C d_M_addressOf_185 (by decide) ?_
      refine bv_call (rest := [.int y2, .int (nI i), .ref (ad 319)]) 190 rfl C d_M_addressOf_187 (j_M_turn (x := b5) (n := nI 17)) i_M_turn t1_8 (fun H locs ls _ => bs_S (av := [.int b5, .int (nI 17)]) C i_M_turn t4_55 t4_56 t1_8 (by decide) rfl rfl d_M_addressOf_187 H locs ls) ⟨by first | decide | omega, by first | decide | omega⟩ (by decide) (by decide) (Nat.le_of_ble_eq_true rfl) (fun v ad1 w1 N1 hpo => ?_) (fun x Cn ad' w' N' hth => hth.elim)
      obtain ⟨rfl, rfl, rfl, r3, rfl⟩ := hpo
      refine bv_iload 192 rfl C d_M_addressOf_190 rfl ?_
      refine bv_bipush (v := nI 19) 194 rfl C d_M_addressOf_192 (by decide) ?_
      refine bv_call (rest := [.int r3, .int y2, .int (nI i), .ref (ad 319)]) 197 rfl C d_M_addressOf_194 (j_M_turn (x := b5) (n := nI 19)) i_M_turn t1_8 (fun H locs ls _ => bs_S (av := [.int b5, .int (nI 19)]) C i_M_turn t4_55 t4_56 t1_8 (by decide) rfl rfl d_M_addressOf_194 H locs ls) ⟨by first | decide | omega, by first | decide | omega⟩ (by decide) (by decide) (Nat.le_of_ble_eq_true rfl) (fun v ad1 w1 N1 hpo => ?_) (fun x Cn ad' w' N' hth => hth.elim)
      obtain ⟨rfl, rfl, rfl, r4, rfl⟩ := hpo
      refine bv_ixor 198 rfl C d_M_addressOf_197 ?_
      refine bv_iload 200 rfl C d_M_addressOf_198 rfl ?_
      refine bv_bipush (v := nI 10) 202 rfl C d_M_addressOf_200 (by decide) ?_
      refine bv_iushr 203 rfl C d_M_addressOf_202 rfl ?_
      refine bv_ixor 204 rfl C d_M_addressOf_203 ?_
      refine bv_iadd 205 rfl C d_M_addressOf_204 ?_
      refine bv_iast 319 i 206 rfl C (by omega) rfl hs rfl (by omega) (by decide) d_M_addressOf_205 ?_
      refine bv_any (hI.up ((sh_319 (by decide)).mpr ⟨_, rfl⟩)) (fun w1 hI1 => ?_)
      refine bv_iinc 209 rfl C d_M_addressOf_206 rfl (by first | exact b_inc _ | rfl) (by decide) ?_
      refine bv_goto 111 C d_M_addressOf_209 (by decide) ?_
      refine bv_wk [(0, .ref (ad 305)), (3, .int (nI (i + 1)))] ⟨rfl, rfl, trivial⟩ ?_
      exact ih (i + 1) w1 (by omega) hI1 (by omega)
  obtain ⟨fz, hz, hz'⟩ := hI.k306 (k := 306) (by decide) (by decide)
  obtain ⟨n, hn, hne⟩ := hz' i0 hi0
  have t73 : ∀ (w : Nat → va_E), II dd ad w → bV p l e { frames := 1, cells := 0, slots := 0, locals := 21 } s m args below meth c dd A 9 0 0 (bJ dd ad (fun v => v = none)) (bNo) 73 (bO [(0, .ref (ad 305)), (2, .int (nI n))]) [] ad w 324 0 0 := by
    intro w hI
    obtain ⟨th, V, wr, cu, dn, hV, hd, hm⟩ := hI.k305 (k := 305) (by decide) (by decide)
    obtain ⟨fs, hs⟩ := hI.k319 (k := 319) (by decide) (by decide)
    refine bv_aload_n 74 rfl C d_M_addressOf_73 rfl ?_
    refine bv_get 305 18 77 rfl C k_M (by omega) rfl hm (by decide) t3_125 rfl d_M_addressOf_74 ?_
    refine bv_iload_n 78 rfl C d_M_addressOf_77 rfl ?_
    refine bv_iconst (v := nI 4) 79 rfl C d_M_addressOf_78 (by decide) ?_
    refine bv_idivN (a := n) (d := 4) 80 rfl C rfl rfl (by omega) (by decide) (by decide) d_M_addressOf_79 ?_
    refine bv_dup2_11 81 rfl C d_M_addressOf_80 rfl rfl ?_
    refine bv_iald 319 (n/4) 82 rfl C (by omega) rfl hs rfl (by omega) (by decide) d_M_addressOf_81 ?_
    refine bv_topi (fun u1 _ => ?_)
    refine bv_sipush (v := nI 128) 85 rfl C d_M_addressOf_82 (by decide) ?_
    refine bv_bipush (v := nI 24) 87 rfl C d_M_addressOf_85 (by decide) ?_
    refine bv_bipush (v := nI 8) 89 rfl C d_M_addressOf_87 (by decide) ?_
    refine bv_iload_n 90 rfl C d_M_addressOf_89 rfl ?_
    refine bv_iconst (v := nI 4) 91 rfl C d_M_addressOf_90 (by decide) ?_
    refine bv_iremN (a := n) (d := 4) 92 rfl C rfl rfl (by omega) (by decide) (by decide) d_M_addressOf_91 ?_
    refine bv_imul 93 rfl C d_M_addressOf_92 ?_
    refine bv_isub 94 rfl C d_M_addressOf_93 ?_
    refine bv_ishl 95 rfl C d_M_addressOf_94 ?_
    refine bv_ior 96 rfl C d_M_addressOf_95 ?_
    refine bv_iast 319 (n/4) 97 rfl C (by omega) rfl hs rfl (by omega) (by decide) d_M_addressOf_96 ?_
    refine bv_any (hI.up ((sh_319 (by decide)).mpr ⟨_, rfl⟩)) (fun w1 hI1 => ?_)
    obtain ⟨th, V, wr, cu, dn, hV, hd, hm⟩ := hI1.k305 (k := 305) (by decide) (by decide)
    obtain ⟨fs, hs⟩ := hI1.k319 (k := 319) (by decide) (by decide)
    refine bv_aload_n 98 rfl C d_M_addressOf_97 rfl ?_
    refine bv_get 305 18 101 rfl C k_M (by omega) rfl hm (by decide) t3_125 rfl d_M_addressOf_98 ?_
    refine bv_bipush (v := nI 15) 103 rfl C d_M_addressOf_101 (by decide) ?_
    refine bv_bipush (v := nI 8) 105 rfl C d_M_addressOf_103 (by decide) ?_
    refine bv_iload_n 106 rfl C d_M_addressOf_105 rfl ?_
    refine bv_imul 107 rfl C d_M_addressOf_106 ?_
    refine bv_iast 319 15 108 rfl C (by omega) rfl hs rfl (by decide) (by decide) d_M_addressOf_107 ?_
    refine bv_any (hI1.up ((sh_319 (by decide)).mpr ⟨_, rfl⟩)) (fun w2 hI2 => ?_)
    refine bv_bipush (v := nI 16) 110 rfl C d_M_addressOf_108 (by decide) ?_
    refine bv_istore_n 111 rfl C d_M_addressOf_110 (by decide) ?_
    refine bv_wk [(0, .ref (ad 305)), (3, .int (nI 16))] ⟨rfl, rfl, trivial⟩ ?_
    exact l111 48 16 w2 (by omega) hI2 (by decide)
  have l30 : ∀ (d i : Nat) (w : Nat → va_E), i + d = n → II dd ad w → bV p l e { frames := 1, cells := 0, slots := 0, locals := 21 } s m args below meth c dd A 9 0 0 (bJ dd ad (fun v => v = none)) (bNo) 30 (bO [(0, .ref (ad 305)), (1, .int (nI i0)), (2, .int (nI n)), (3, .int (nI i))]) [] ad w 324 0 0 := by
    intro d
    induction d with
    | zero =>
      intro i w hi hI
      refine bv_iload_n 31 rfl C d_M_addressOf_30 rfl ?_
      refine bv_iload_n 32 rfl C d_M_addressOf_31 rfl ?_
      refine bv_icmp_ge 73 35 rfl C d_M_addressOf_32 (by decide) (fun h => ?_) (fun h => absurd (nI_le (show n ≤ i by omega) (by omega)) h)
      exact bv_wk [(0, .ref (ad 305)), (2, .int (nI n))] ⟨rfl, rfl, trivial⟩ (t73 w hI)
    | succ d ih =>
      intro i w hi hI
      obtain ⟨th, V, wr, cu, dn, hV, hd, hm⟩ := hI.k305 (k := 305) (by decide) (by decide)
      obtain ⟨fs, hs⟩ := hI.k319 (k := 319) (by decide) (by decide)
      obtain ⟨fb, hb⟩ := hI.k307 (k := 307) (by decide) (by decide)
      refine bv_iload_n 31 rfl C d_M_addressOf_30 rfl ?_
      refine bv_iload_n 32 rfl C d_M_addressOf_31 rfl ?_
      refine bv_icmp_ge 73 35 rfl C d_M_addressOf_32 (by decide) (fun h => absurd h (nI_ge (show i < n by omega) (by omega))) (fun h => ?_)
      refine bv_aload_n 36 rfl C d_M_addressOf_35 rfl ?_
      refine bv_get 305 18 39 rfl C k_M (by omega) rfl hm (by decide) t3_125 rfl d_M_addressOf_36 ?_
      refine bv_iload_n 40 rfl C d_M_addressOf_39 rfl ?_
      refine bv_iconst (v := nI 4) 41 rfl C d_M_addressOf_40 (by decide) ?_
      refine bv_idivN (a := i) (d := 4) 42 rfl C rfl rfl (by omega) (by decide) (by decide) d_M_addressOf_41 ?_
      refine bv_dup2_11 43 rfl C d_M_addressOf_42 rfl rfl ?_
      refine bv_iald 319 (i/4) 44 rfl C (by omega) rfl hs rfl (by omega) (by decide) d_M_addressOf_43 ?_
      refine bv_topi (fun u1 _ => ?_)
      refine bv_aload_n 45 rfl C d_M_addressOf_44 rfl ?_
      refine bv_get 305 2 48 rfl C k_M (by omega) rfl hm (by decide) t3_109 rfl d_M_addressOf_45 ?_
      refine bv_bipush (v := nI 8) 50 rfl C d_M_addressOf_48 (by decide) ?_
      refine bv_iload_n 51 rfl C d_M_addressOf_50 rfl ?_
      refine bv_imul 52 rfl C d_M_addressOf_51 ?_
      refine bv_iload_n 53 rfl C d_M_addressOf_52 rfl ?_
      refine bv_iadd 54 rfl C d_M_addressOf_53 ?_
      refine bv_iald 307 (8*i0+i) 55 rfl C (by omega) rfl hb (by rw [pk_mul, nI_add]) (by omega) (by decide) d_M_addressOf_54 ?_
      refine bv_topi (fun u2 _ => ?_)
      refine bv_bipush (v := nI 24) 57 rfl C d_M_addressOf_55 (by decide) ?_
      refine bv_bipush (v := nI 8) 59 rfl C d_M_addressOf_57 (by decide) ?_
      refine bv_iload_n 60 rfl C d_M_addressOf_59 rfl ?_
      refine bv_iconst (v := nI 4) 61 rfl C d_M_addressOf_60 (by decide) ?_
      refine bv_iremN (a := i) (d := 4) 62 rfl C rfl rfl (by omega) (by decide) (by decide) d_M_addressOf_61 ?_
      refine bv_imul 63 rfl C d_M_addressOf_62 ?_
      refine bv_isub 64 rfl C d_M_addressOf_63 ?_
      refine bv_ishl 65 rfl C d_M_addressOf_64 ?_
      refine bv_ior 66 rfl C d_M_addressOf_65 ?_
      refine bv_iast 319 (i/4) 67 rfl C (by omega) rfl hs rfl (by omega) (by decide) d_M_addressOf_66 ?_
      refine bv_any (hI.up ((sh_319 (by decide)).mpr ⟨_, rfl⟩)) (fun w1 hI1 => ?_)
      refine bv_iinc 70 rfl C d_M_addressOf_67 rfl (by first | exact b_inc _ | rfl) (by decide) ?_
      refine bv_goto 30 C d_M_addressOf_70 (by decide) ?_
      refine bv_wk [(0, .ref (ad 305)), (1, .int (nI i0)), (2, .int (nI n)), (3, .int (nI (i + 1)))] ⟨rfl, rfl, rfl, rfl, trivial⟩ ?_
      exact ih (i + 1) w1 (by omega) hI1
  have l9 : ∀ (d i : Nat) (w : Nat → va_E), i + d = 16 → II dd ad w → bV p l e { frames := 1, cells := 0, slots := 0, locals := 21 } s m args below meth c dd A 9 0 0 (bJ dd ad (fun v => v = none)) (bNo) 9 (bO [(0, .ref (ad 305)), (1, .int (nI i0)), (2, .int (nI n)), (3, .int (nI i))]) [] ad w 324 0 0 := by
    intro d
    induction d with
    | zero =>
      intro i w hi hI
      obtain rfl : i = 16 := by omega
      refine bv_iload_n 10 rfl C d_M_addressOf_9 rfl ?_
      refine bv_bipush (v := nI 16) 12 rfl C d_M_addressOf_10 (by decide) ?_
      refine bv_icmp_ge 28 15 rfl C d_M_addressOf_12 (by decide) (fun h => ?_) (fun h => absurd (nI_le (by decide) (by decide)) h)
      refine bv_iconst (v := nI 0) 29 rfl C d_M_addressOf_28 (by decide) ?_
      refine bv_istore_n 30 rfl C d_M_addressOf_29 (by decide) ?_
      refine bv_wk [(0, .ref (ad 305)), (1, .int (nI i0)), (2, .int (nI n)), (3, .int (nI 0))] ⟨rfl, rfl, rfl, rfl, trivial⟩ ?_
      exact l30 n 0 w (by omega) hI
    | succ d ih =>
      intro i w hi hI
      obtain ⟨th, V, wr, cu, dn, hV, hd, hm⟩ := hI.k305 (k := 305) (by decide) (by decide)
      obtain ⟨fs, hs⟩ := hI.k319 (k := 319) (by decide) (by decide)
      refine bv_iload_n 10 rfl C d_M_addressOf_9 rfl ?_
      refine bv_bipush (v := nI 16) 12 rfl C d_M_addressOf_10 (by decide) ?_
      refine bv_icmp_ge 28 15 rfl C d_M_addressOf_12 (by decide) (fun h => absurd h (nI_ge (by omega) (by decide))) (fun h => ?_)
      refine bv_aload_n 16 rfl C d_M_addressOf_15 rfl ?_
      refine bv_get 305 18 19 rfl C k_M (by omega) rfl hm (by decide) t3_125 rfl d_M_addressOf_16 ?_
      refine bv_iload_n 20 rfl C d_M_addressOf_19 rfl ?_
      refine bv_iconst (v := nI 0) 21 rfl C d_M_addressOf_20 (by decide) ?_
      refine bv_iast 319 i 22 rfl C (by omega) rfl hs rfl (by omega) (by decide) d_M_addressOf_21 ?_
      refine bv_any (hI.up ((sh_319 (by decide)).mpr ⟨_, rfl⟩)) (fun w1 hI1 => ?_)
      refine bv_iinc 25 rfl C d_M_addressOf_22 rfl (by first | exact b_inc _ | rfl) (by decide) ?_
      refine bv_goto 9 C d_M_addressOf_25 (by decide) ?_
      refine bv_wk [(0, .ref (ad 305)), (1, .int (nI i0)), (2, .int (nI n)), (3, .int (nI (i + 1)))] ⟨rfl, rfl, rfl, rfl, trivial⟩ ?_
      exact ih (i + 1) w1 (by omega) hI1
  obtain ⟨th, V, wr, cu, dn, hV, hd, hm⟩ := hI.k305 (k := 305) (by decide) (by decide)
  refine bv_aload_n 1 rfl C d_M_addressOf_0 rfl ?_
  refine bv_get 305 1 4 rfl C k_M (by omega) rfl hm (by decide) t3_108 rfl d_M_addressOf_1 ?_
  refine bv_iload_n 5 rfl C d_M_addressOf_4 rfl ?_
  refine bv_iald 306 i0 6 rfl C (by omega) rfl hz rfl hi0 (by decide) d_M_addressOf_5 ?_
  refine bv_seti (nI n) hne ?_
  refine bv_istore_n 7 rfl C d_M_addressOf_6 (by decide) ?_
  refine bv_iconst (v := nI 0) 8 rfl C d_M_addressOf_7 (by decide) ?_
  refine bv_istore_n 9 rfl C d_M_addressOf_8 (by decide) ?_
  refine bv_wk [(0, .ref (ad 305)), (1, .int (nI i0)), (2, .int (nI n)), (3, .int (nI 0))] ⟨rfl, rfl, rfl, rfl, trivial⟩ ?_
  exact l9 16 0 w (by omega) hI
theorem j_M_address {x y : Int32} (hI : II dd ad w) : bK l dd y_M_address 2 49 0 0 [.ref (ad 305), .int x, .int y] ad w 324 (bJ dd ad vI) (bNo) := by
  obtain ⟨th, V, wr, cu, dn, hV, hd, hm⟩ := hI.k305 (k := 305) (by decide) (by decide)
  refine bK.start [(0, .ref (ad 305)), (1, .int x), (2, .int y)] (by decide) t4_46 (Nat.le_of_ble_eq_true rfl) rfl (fun p e s m args below meth c A hnm C => ?_)
  have says : ∀ (u : Int32), (((∃ i, i < 48 ∧ x = nI i) ∧ ∃ j, j < 8 ∧ y = nI j) ∨ ¬ u = 0) → bV p l e { frames := 2, cells := 0, slots := 0, locals := 49 } s m args below meth c dd A 3 0 0 (bJ dd ad vI) (bNo) 24 (bO [(0, .ref (ad 305)), (1, .int x), (2, .int y)]) [.int u, .ref (ad 305)] ad w 324 0 0 := by
    intro u hx
    refine bv_call (rest := []) 27 rfl C d_M_address_24 (ct_M_says (by decide) hm (x := u)) i_M_says t1_8 (fun H locs ls hP => bs_V (av := [.int u]) 305 C i_M_says t3_187 t3_189 s_38 (by omega) rfl hm rfl (by decide) rfl rfl d_M_address_24 H locs ls hP) ⟨by first | decide | omega, by first | decide | omega⟩ (by decide) (by decide) (Nat.le_of_ble_eq_true rfl) (fun v ad1 w1 N1 hpo => ?_) (fun x Cn ad' w' N' hth => hth.elim)
    obtain ⟨rfl, rfl, rfl, hv⟩ := hpo
    have hI1 : II dd ad (va_up w 305 (mO ad u (nI V) wr cu dn)) := hI.m hV hd
    have hm1 : (va_up w 305 (mO ad u (nI V) wr cu dn)) 305 = mO ad u (nI V) wr cu dn := va_up_self _ _ _
    generalize va_up w 305 (mO ad u (nI V) wr cu dn) = w1 at hI1 hm1 ⊢
    rcases hv with ⟨hu, rfl⟩ | ⟨hu, rfl⟩
    · obtain ⟨⟨i, hi, rfl⟩, j, hj, rfl⟩ := hx.resolve_right (fun h => h hu)
      refine bv_if_ne 32 30 rfl C d_M_address_27 (by decide) (fun h => ?_) (fun h => absurd h (show ¬ nI 1 = 0 by decide))
      refine bv_aload_n 33 rfl C d_M_address_32 rfl ?_
      refine bv_iload_n 34 rfl C d_M_address_33 rfl ?_
      refine bv_call (rest := []) 37 rfl C d_M_address_34 (j_M_addressOf hI1 hi) i_M_addressOf t1_8 (fun H locs ls hP => bs_V (av := [.int (nI i)]) 305 C i_M_addressOf t4_51 t4_53 s_52 (by omega) rfl hm1 rfl (by decide) rfl rfl d_M_address_34 H locs ls hP) ⟨by first | decide | omega, by first | decide | omega⟩ (by decide) (by decide) (Nat.le_of_ble_eq_true rfl) (fun v ad1 w2 N1 hpo => ?_) (fun x Cn ad' w' N' hth => hth.elim)
      obtain ⟨rfl, rfl, hI2, rfl⟩ := hpo
      obtain ⟨th, V, wr, cu, dn, hV, hd, hm⟩ := hI2.k305 (k := 305) (by decide) (by decide)
      obtain ⟨fh, hh⟩ := hI2.k320 (k := 320) (by decide) (by decide)
      refine bv_aload_n 38 rfl C d_M_address_37 rfl ?_
      refine bv_get 305 19 41 rfl C k_M (by omega) rfl hm (by decide) t3_126 rfl d_M_address_38 ?_
      refine bv_iload_n 42 rfl C d_M_address_41 rfl ?_
      refine bv_iald 320 j 43 rfl C (by omega) rfl hh rfl hj (by decide) d_M_address_42 ?_
      exact bv_ireturn C rfl d_M_address_43 (Nat.le_refl _) (Nat.le_refl _) ⟨rfl, rfl, hI2, _, rfl⟩
    · refine bv_if_ne 32 30 rfl C d_M_address_27 (by decide) (fun h => absurd (show nI 0 = 0 by decide) h) (fun h => ?_)
      refine bv_iconst (v := nI 0) 31 rfl C d_M_address_30 (by decide) ?_
      exact bv_ireturn C rfl d_M_address_31 (Nat.le_refl _) (Nat.le_refl _) ⟨rfl, rfl, hI1, _, rfl⟩
  refine bv_aload_n 1 rfl C d_M_address_0 rfl ?_
  refine bv_aload_n 2 rfl C d_M_address_1 rfl ?_
  refine bv_iload_n 3 rfl C d_M_address_2 rfl ?_
  refine bv_call (rest := [.ref (ad 305)]) 6 rfl C d_M_address_3 (j_M_hasChunk hI (x := x)) i_M_hasChunk t1_8 (fun H locs ls hP => bs_V (av := [.int x]) 305 C i_M_hasChunk t4_47 t4_49 s_51 (by omega) rfl hm rfl (by decide) rfl rfl d_M_address_3 H locs ls hP) ⟨by first | decide | omega, by first | decide | omega⟩ (by decide) (by decide) (Nat.le_of_ble_eq_true rfl) (fun v ad1 w2 N1 hpo => ?_) (fun x Cn ad' w' N' hth => hth.elim)
  obtain ⟨rfl, rfl, rfl, hv⟩ := hpo
  rcases hv with rfl | ⟨i, hi, rfl, rfl⟩
  · refine bv_if_eq 23 9 rfl C d_M_address_6 (by decide) (fun h => ?_) (fun h => absurd (show nI 0 = 0 by decide) h)
    refine bv_iconst (v := nI 1) 24 rfl C d_M_address_23 (by decide) ?_
    exact says _ (Or.inr (by decide))
  · refine bv_if_eq 23 9 rfl C d_M_address_6 (by decide) (fun h => absurd h (show ¬ nI 1 = 0 by decide)) (fun h => ?_)
    refine bv_iload_n 10 rfl C d_M_address_9 rfl ?_
    refine bv_iconst (v := nI 0) 11 rfl C d_M_address_10 (by decide) ?_
    refine bv_bipush (v := nI 7) 13 rfl C d_M_address_11 (by decide) ?_
    refine bv_call (rest := [.ref (ad 305)]) 16 rfl C d_M_address_13 (ct_M_in (x := y) (a := nI 0) (b := nI 7)) i_M_in t1_8 (fun H locs ls _ => bs_S (av := [.int y, .int (nI 0), .int (nI 7)]) C i_M_in t3_184 t3_185 t1_8 (by decide) rfl rfl d_M_address_13 H locs ls) ⟨by first | decide | omega, by first | decide | omega⟩ (by decide) (by decide) (Nat.le_of_ble_eq_true rfl) (fun v ad1 w1 N1 hpo => ?_) (fun x Cn ad' w' N' hth => hth.elim)
    obtain ⟨rfl, rfl, rfl, hv⟩ := hpo
    rcases hv with ⟨hy, rfl⟩ | ⟨-, rfl⟩
    · obtain ⟨j, -, hj, rfl⟩ := b_in (by decide) (by decide) hy
      refine bv_if_eq 23 19 rfl C d_M_address_16 (by decide) (fun h => absurd h (show ¬ nI 1 = 0 by decide)) (fun h => ?_)
      refine bv_iconst (v := nI 0) 20 rfl C d_M_address_19 (by decide) ?_
      refine bv_goto 24 C d_M_address_20 (by decide) ?_
      exact says _ (Or.inl ⟨⟨i, hi, rfl⟩, j, by omega, rfl⟩)
    · refine bv_if_eq 23 19 rfl C d_M_address_16 (by decide) (fun h => ?_) (fun h => absurd (show nI 0 = 0 by decide) h)
      refine bv_iconst (v := nI 1) 24 rfl C d_M_address_23 (by decide) ?_
      exact says _ (Or.inr (by decide))
end bQ11

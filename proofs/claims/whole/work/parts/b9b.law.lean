/-! The law: cases edition board fault face -/
section
variable {G : ac_G} {M : ac_M} {h : ac_H} {ad : Nat → Nat} {o : Nat} {md : Nat → Nat} {m : Nat} {b L u i : Nat} {xs : Nat → Int32} {k n : Nat}
theorem law_edition (Z : lz G M ad o md b L u xs) (I : li ad o md u m h) (hm : m < 1000) (hi : i + 7 ≤ L) (hk : k + 7 ≤ 4000) (hn : n + 932 ≤ 500000) (kk : lk G M ad o md b u i m k n) (l5 l6 l7 : Value) : aw G 8 M 218 [.ref b, .ref (ad 0), .ref o, .ref u, .int (nI i), l5, l6, l7] [] h k n := by
  obtain ⟨C, B, hst, hX, hbl, hbA, hL, ua, um⟩ := Z
  obtain ⟨s, w, J, hu⟩ := I
  obtain ⟨fs9, ho⟩ := gJ_om J
  have uo : o ≠ u := fun z => um (by rw [← z]; exact List.mem_cons_self)
  have x1 : vp_in (nI i + 1) L ∧ (nI i + 1).toNatClampNeg = i + 1 := lx (j := 1) (by omega) hL
  have x2 : vp_in (nI i + 2) L ∧ (nI i + 2).toNatClampNeg = i + 2 := lx (j := 2) (by omega) hL
  refine aw_aload_n C dL_law_218 rfl rfl (q := 219) rfl ?_
  refine aw_aload_n C dL_law_219 rfl rfl (q := 220) rfl ?_
  refine aw_iload C dL_law_220 rfl (q := 222) rfl ?_
  refine aw_iconst (v := 1) C dL_law_222 (by decide) (q := 223) rfl ?_
  refine aw_iadd C dL_law_223 (q := 224) rfl ?_
  refine aw_sld (j := i + 1) C dL_law_224 hX hbl hbA x1 (q := 225) rfl ?_
  refine aw_i2l C dL_law_225 (q := 226) rfl ?_
  refine aw_bipush (v := 32) C dL_law_226 (by decide) (q := 228) rfl ?_
  refine aw_lshl C dL_law_228 (q := 229) rfl ?_
  refine aw_aload_n C dL_law_229 rfl rfl (q := 230) rfl ?_
  refine aw_iload C dL_law_230 rfl (q := 232) rfl ?_
  refine aw_iconst (v := 2) C dL_law_232 (by decide) (q := 233) rfl ?_
  refine aw_iadd C dL_law_233 (q := 234) rfl ?_
  refine aw_sld (j := i + 2) C dL_law_234 hX hbl hbA x2 (q := 235) rfl ?_
  refine aw_i2l C dL_law_235 (q := 236) rfl ?_
  refine lcL_84 C dL_law_236 (q := 239) rfl ?_
  refine aw_land C dL_law_239 (q := 240) rfl ?_
  refine aw_lor C dL_law_240 (q := 241) rfl ?_
  refine aw_aload_n C dL_law_241 rfl rfl (q := 242) rfl ?_
  refine csL_edition (As := [.ref (ad 0), .long ((((xs (i + 1)).toInt64) <<< ((32 : Int32).toInt64 &&& 63)) ||| (((xs (i + 2)).toInt64) &&& 4294967295)), .ref u]) (rest := []) C B dL_law_242 (w_edition J (((((xs (i + 1)).toInt64) <<< ((32 : Int32).toInt64 &&& 63)) ||| (((xs (i + 2)).toInt64) &&& 4294967295))) u hu ua G M.2.1 hst 0) rfl rfl (Nat.le_of_ble_eq_true rfl) (by omega) (by omega) (by omega) (q := 245) rfl (fun r h1 hr => ?_)
  obtain ⟨kc, rfl, kp1, v, w1, hu1, ⟨Q, hM, hQ⟩, hlo⟩ := hr
  show aw G 8 M 245 [.ref b, .ref (ad 0), .ref o, .ref u, .int (nI i), l5, l6, l7] [.int kc] h1 (k + 1) (n + 6)
  have ho1 := kp1 o _ ho (gJ_oa J) uo
  refine aw_istore (ls' := [.ref b, .ref (ad 0), .ref o, .ref u, .int (nI i), .int kc, l6, l7]) C dL_law_245 (by decide) rfl (q := 247) rfl ?_
  refine aw_aload_n C dL_law_247 rfl rfl (q := 248) rfl ?_
  refine aw_aload_n C dL_law_248 rfl rfl (q := 249) rfl ?_
  refine aw_iload C dL_law_249 rfl (q := 251) rfl ?_
  refine aw_iconst (v := 1) C dL_law_251 (by decide) (q := 252) rfl ?_
  refine aw_iadd C dL_law_252 (q := 253) rfl ?_
  refine aw_sld (j := i + 1) C dL_law_253 hX hbl hbA x1 (q := 254) rfl ?_
  refine aw_i2l C dL_law_254 (q := 255) rfl ?_
  refine aw_bipush (v := 32) C dL_law_255 (by decide) (q := 257) rfl ?_
  refine aw_lshl C dL_law_257 (q := 258) rfl ?_
  refine aw_aload_n C dL_law_258 rfl rfl (q := 259) rfl ?_
  refine aw_iload C dL_law_259 rfl (q := 261) rfl ?_
  refine aw_iconst (v := 2) C dL_law_261 (by decide) (q := 262) rfl ?_
  refine aw_iadd C dL_law_262 (q := 263) rfl ?_
  refine aw_sld (j := i + 2) C dL_law_263 hX hbl hbA x2 (q := 264) rfl ?_
  refine aw_i2l C dL_law_264 (q := 265) rfl ?_
  refine lcL_84 C dL_law_265 (q := 268) rfl ?_
  refine aw_land C dL_law_268 (q := 269) rfl ?_
  refine aw_lor C dL_law_269 (q := 270) rfl ?_
  refine cvL_89_9 (As := [.long ((((xs (i + 1)).toInt64) <<< ((32 : Int32).toInt64 &&& 63)) ||| (((xs (i + 2)).toInt64) &&& 4294967295))]) (rest := []) C B dL_law_270 ho1 (hM G M.2.1 0) rfl rfl (Nat.le_of_ble_eq_true rfl) (by omega) (by omega) (by omega) (q := 273) rfl (fun r2 h2 hr2 => ?_)
  obtain ⟨hv, ⟨bv, rfl⟩, s2, J2, hcode, kp2⟩ := hQ r2 h2 hr2
  show aw G 8 M 273 [.ref b, .ref (ad 0), .ref o, .ref u, .int (nI i), .int kc, l6, l7] [.int bv] h2 (k + 1 + 0) (n + 6 + 0)
  have hu2 := kp2 u _ hu1 um
  refine aw_istore (ls' := [.ref b, .ref (ad 0), .ref o, .ref u, .int (nI i), .int kc, .int bv, l7]) C dL_law_273 (by decide) rfl (q := 275) rfl ?_
  refine aw_aload_n C dL_law_275 rfl rfl (q := 276) rfl ?_
  refine cvL_81_9 (As := []) (rest := []) C B dL_law_276 J2.2.2.2.1.1 (m_thrown G M.2.1 o md J2.2.1 h2 0 s2 J2.2.2.2.1) rfl rfl (Nat.le_of_ble_eq_true rfl) (by omega) (by omega) (by omega) (q := 279) rfl (fun r3 h3 hr3 => ?_)
  obtain ⟨rfl, rfl⟩ := hr3
  show aw G 8 M 279 [.ref b, .ref (ad 0), .ref o, .ref u, .int (nI i), .int kc, .int bv, l7] [.int (s2.1 0)] h3 (k + 1 + 0 + 0) (n + 6 + 0 + 0)
  refine aw_iload C dL_law_279 rfl (q := 281) rfl ?_
  refine aw_icmp_eq (t := 286) (q := 284) C dL_law_281 (by decide) rfl (fun c1 => ?_) (fun c1 => absurd hcode c1)
  refine aw_iload C dL_law_286 rfl (q := 288) rfl ?_
  have fin : aw G 8 M 303 [.ref b, .ref (ad 0), .ref o, .ref u, .int (nI i), .int kc, .int bv, l7] [] h3 (k + 1 + 0 + 0) (n + 6 + 0 + 0) := by
    refine aw_goto (q := 1194) C dL_law_303 (by decide) ?_
    exact kk h3 _ _ _ _ _ ⟨s2, w1, J2, hu2⟩ (by omega) (by omega)
  refine aw_if_ne (t := 303) (q := 291) C dL_law_288 (by decide) rfl (fun _ => fin) (fun c2 => ?_)
  have hw : w1 0 = bv.toInt64 := by
    have e1 := hlo c2
    rw [← hv c2] at e1
    exact (Option.some.inj e1).symm
  refine aw_aload_n C dL_law_291 rfl rfl (q := 292) rfl ?_
  refine aw_iconst (v := 0) C dL_law_292 (by decide) (q := 293) rfl ?_
  refine ay_lald (N := 1) (j := 0) C dL_law_293 hu2 vin0 (by decide) (q := 294) rfl ?_
  refine aw_iload C dL_law_294 rfl (q := 296) rfl ?_
  refine aw_i2l C dL_law_296 (q := 297) rfl ?_
  refine aw_lcmp C dL_law_297 (q := 298) rfl ?_
  exact aw_if_eq (t := 303) (q := 301) C dL_law_298 (by decide) rfl (fun _ => fin) (fun c3 => absurd ((lg_cmp_eq _ _).mpr hw) c3)
theorem law_board (Z : lz G M ad o md b L u xs) (I : li ad o md u m h) (hm : m < 1000) (hi : i + 7 ≤ L) (hk : k + 7 ≤ 4000) (hn : n + 932 ≤ 500000) (kk : lk G M ad o md b u i m k n) (l5 l6 l7 : Value) : aw G 8 M 306 [.ref b, .ref (ad 0), .ref o, .ref u, .int (nI i), l5, l6, l7] [] h k n := by
  obtain ⟨C, B, hst, hX, hbl, hbA, hL, ua, um⟩ := Z
  obtain ⟨s, w, J, hu⟩ := I
  obtain ⟨fs9, ho⟩ := gJ_om J
  have x1 : vp_in (nI i + 1) L ∧ (nI i + 1).toNatClampNeg = i + 1 := lx (j := 1) (by omega) hL
  have x2 : vp_in (nI i + 2) L ∧ (nI i + 2).toNatClampNeg = i + 2 := lx (j := 2) (by omega) hL
  have x3 : vp_in (nI i + 3) L ∧ (nI i + 3).toNatClampNeg = i + 3 := lx (j := 3) (by omega) hL
  refine aw_aload_n C dL_law_306 rfl rfl (q := 307) rfl ?_
  refine aw_aload_n C dL_law_307 rfl rfl (q := 308) rfl ?_
  refine aw_iload C dL_law_308 rfl (q := 310) rfl ?_
  refine aw_iconst (v := 1) C dL_law_310 (by decide) (q := 311) rfl ?_
  refine aw_iadd C dL_law_311 (q := 312) rfl ?_
  refine aw_sld (j := i + 1) C dL_law_312 hX hbl hbA x1 (q := 313) rfl ?_
  refine aw_aload_n C dL_law_313 rfl rfl (q := 314) rfl ?_
  refine aw_iload C dL_law_314 rfl (q := 316) rfl ?_
  refine aw_iconst (v := 2) C dL_law_316 (by decide) (q := 317) rfl ?_
  refine aw_iadd C dL_law_317 (q := 318) rfl ?_
  refine aw_sld (j := i + 2) C dL_law_318 hX hbl hbA x2 (q := 319) rfl ?_
  refine aw_aload_n C dL_law_319 rfl rfl (q := 320) rfl ?_
  refine aw_iload C dL_law_320 rfl (q := 322) rfl ?_
  refine aw_iconst (v := 3) C dL_law_322 (by decide) (q := 323) rfl ?_
  refine aw_iadd C dL_law_323 (q := 324) rfl ?_
  refine aw_sld (j := i + 3) C dL_law_324 hX hbl hbA x3 (q := 325) rfl ?_
  refine csL_board (As := [.ref (ad 0), .int (xs (i + 1)), .int (xs (i + 2)), .int (xs (i + 3))]) (rest := []) C B dL_law_325 (w_board J hm ((xs (i + 1))) ((xs (i + 2))) ((xs (i + 3))) G M.2.1 hst 0) rfl rfl (Nat.le_of_ble_eq_true rfl) (by omega) (by omega) (by omega) (q := 328) rfl (fun r h1 hr => ?_)
  obtain ⟨kc, rfl, kp1, v, Q, hM, hQ⟩ := hr
  show aw G 8 M 328 [.ref b, .ref (ad 0), .ref o, .ref u, .int (nI i), l5, l6, l7] [.int kc] h1 (k + 1) (n + 6)
  have hu1 := kp1 u _ hu ua
  have ho1 := kp1 o _ ho (gJ_oa J)
  refine aw_istore (ls' := [.ref b, .ref (ad 0), .ref o, .ref u, .int (nI i), .int kc, l6, l7]) C dL_law_328 (by decide) rfl (q := 330) rfl ?_
  refine aw_aload_n C dL_law_330 rfl rfl (q := 331) rfl ?_
  refine aw_aload_n C dL_law_331 rfl rfl (q := 332) rfl ?_
  refine aw_iload C dL_law_332 rfl (q := 334) rfl ?_
  refine aw_iconst (v := 1) C dL_law_334 (by decide) (q := 335) rfl ?_
  refine aw_iadd C dL_law_335 (q := 336) rfl ?_
  refine aw_sld (j := i + 1) C dL_law_336 hX hbl hbA x1 (q := 337) rfl ?_
  refine aw_aload_n C dL_law_337 rfl rfl (q := 338) rfl ?_
  refine aw_iload C dL_law_338 rfl (q := 340) rfl ?_
  refine aw_iconst (v := 2) C dL_law_340 (by decide) (q := 341) rfl ?_
  refine aw_iadd C dL_law_341 (q := 342) rfl ?_
  refine aw_sld (j := i + 2) C dL_law_342 hX hbl hbA x2 (q := 343) rfl ?_
  refine aw_aload_n C dL_law_343 rfl rfl (q := 344) rfl ?_
  refine aw_iload C dL_law_344 rfl (q := 346) rfl ?_
  refine aw_iconst (v := 3) C dL_law_346 (by decide) (q := 347) rfl ?_
  refine aw_iadd C dL_law_347 (q := 348) rfl ?_
  refine aw_sld (j := i + 3) C dL_law_348 hX hbl hbA x3 (q := 349) rfl ?_
  refine cvL_93_9 (As := [.int (xs (i + 1)), .int (xs (i + 2)), .int (xs (i + 3))]) (rest := []) C B dL_law_349 ho1 (hM G M.2.1 0) rfl rfl (Nat.le_of_ble_eq_true rfl) (by omega) (by omega) (by omega) (q := 352) rfl (fun r2 h2 hr2 => ?_)
  obtain ⟨hv, hN, s2, J2, hcode, kp2⟩ := hQ r2 h2 hr2
  cases hN
  show aw G 8 M 352 [.ref b, .ref (ad 0), .ref o, .ref u, .int (nI i), .int kc, l6, l7] [] h2 (k + 1 + 0) (n + 6 + 0)
  have hu2 := kp2 u _ hu1 um
  refine aw_aload_n C dL_law_352 rfl rfl (q := 353) rfl ?_
  refine cvL_81_9 (As := []) (rest := []) C B dL_law_353 J2.2.2.2.1.1 (m_thrown G M.2.1 o md J2.2.1 h2 0 s2 J2.2.2.2.1) rfl rfl (Nat.le_of_ble_eq_true rfl) (by omega) (by omega) (by omega) (q := 356) rfl (fun r3 h3 hr3 => ?_)
  obtain ⟨rfl, rfl⟩ := hr3
  show aw G 8 M 356 [.ref b, .ref (ad 0), .ref o, .ref u, .int (nI i), .int kc, l6, l7] [.int (s2.1 0)] h3 (k + 1 + 0 + 0) (n + 6 + 0 + 0)
  refine aw_iload C dL_law_356 rfl (q := 358) rfl ?_
  refine aw_icmp_eq (t := 363) (q := 361) C dL_law_358 (by decide) rfl (fun c1 => ?_) (fun c1 => absurd hcode c1)
  refine aw_goto (q := 1194) C dL_law_363 (by decide) ?_
  exact kk h3 _ _ _ _ _ ⟨s2, w, J2, hu2⟩ (by omega) (by omega)
theorem law_fault (Z : lz G M ad o md b L u xs) (I : li ad o md u m h) (hm : m < 1000) (hi : i + 7 ≤ L) (hk : k + 7 ≤ 4000) (hn : n + 932 ≤ 500000) (kk : lk G M ad o md b u i m k n) (l5 l6 l7 : Value) : aw G 8 M 366 [.ref b, .ref (ad 0), .ref o, .ref u, .int (nI i), l5, l6, l7] [] h k n := by
  obtain ⟨C, B, hst, hX, hbl, hbA, hL, ua, um⟩ := Z
  obtain ⟨s, w, J, hu⟩ := I
  obtain ⟨fs9, ho⟩ := gJ_om J
  have uo : o ≠ u := fun z => um (by rw [← z]; exact List.mem_cons_self)
  have x1 : vp_in (nI i + 1) L ∧ (nI i + 1).toNatClampNeg = i + 1 := lx (j := 1) (by omega) hL
  have x2 : vp_in (nI i + 2) L ∧ (nI i + 2).toNatClampNeg = i + 2 := lx (j := 2) (by omega) hL
  have x3 : vp_in (nI i + 3) L ∧ (nI i + 3).toNatClampNeg = i + 3 := lx (j := 3) (by omega) hL
  have x4 : vp_in (nI i + 4) L ∧ (nI i + 4).toNatClampNeg = i + 4 := lx (j := 4) (by omega) hL
  have x5 : vp_in (nI i + 5) L ∧ (nI i + 5).toNatClampNeg = i + 5 := lx (j := 5) (by omega) hL
  have x6 : vp_in (nI i + 6) L ∧ (nI i + 6).toNatClampNeg = i + 6 := lx (j := 6) (by omega) hL
  refine aw_aload_n C dL_law_366 rfl rfl (q := 367) rfl ?_
  refine aw_aload_n C dL_law_367 rfl rfl (q := 368) rfl ?_
  refine aw_iload C dL_law_368 rfl (q := 370) rfl ?_
  refine aw_iconst (v := 1) C dL_law_370 (by decide) (q := 371) rfl ?_
  refine aw_iadd C dL_law_371 (q := 372) rfl ?_
  refine aw_sld (j := i + 1) C dL_law_372 hX hbl hbA x1 (q := 373) rfl ?_
  refine aw_aload_n C dL_law_373 rfl rfl (q := 374) rfl ?_
  refine aw_iload C dL_law_374 rfl (q := 376) rfl ?_
  refine aw_iconst (v := 2) C dL_law_376 (by decide) (q := 377) rfl ?_
  refine aw_iadd C dL_law_377 (q := 378) rfl ?_
  refine aw_sld (j := i + 2) C dL_law_378 hX hbl hbA x2 (q := 379) rfl ?_
  refine aw_aload_n C dL_law_379 rfl rfl (q := 380) rfl ?_
  refine aw_iload C dL_law_380 rfl (q := 382) rfl ?_
  refine aw_iconst (v := 3) C dL_law_382 (by decide) (q := 383) rfl ?_
  refine aw_iadd C dL_law_383 (q := 384) rfl ?_
  refine aw_sld (j := i + 3) C dL_law_384 hX hbl hbA x3 (q := 385) rfl ?_
  refine aw_aload_n C dL_law_385 rfl rfl (q := 386) rfl ?_
  refine aw_iload C dL_law_386 rfl (q := 388) rfl ?_
  refine aw_iconst (v := 4) C dL_law_388 (by decide) (q := 389) rfl ?_
  refine aw_iadd C dL_law_389 (q := 390) rfl ?_
  refine aw_sld (j := i + 4) C dL_law_390 hX hbl hbA x4 (q := 391) rfl ?_
  refine aw_aload_n C dL_law_391 rfl rfl (q := 392) rfl ?_
  refine aw_iload C dL_law_392 rfl (q := 394) rfl ?_
  refine aw_iconst (v := 5) C dL_law_394 (by decide) (q := 395) rfl ?_
  refine aw_iadd C dL_law_395 (q := 396) rfl ?_
  refine aw_sld (j := i + 5) C dL_law_396 hX hbl hbA x5 (q := 397) rfl ?_
  refine aw_aload_n C dL_law_397 rfl rfl (q := 398) rfl ?_
  refine aw_iload C dL_law_398 rfl (q := 400) rfl ?_
  refine aw_bipush (v := 6) C dL_law_400 (by decide) (q := 402) rfl ?_
  refine aw_iadd C dL_law_402 (q := 403) rfl ?_
  refine aw_sld (j := i + 6) C dL_law_403 hX hbl hbA x6 (q := 404) rfl ?_
  refine aw_aload_n C dL_law_404 rfl rfl (q := 405) rfl ?_
  refine csL_fault (As := [.ref (ad 0), .int (xs (i + 1)), .int (xs (i + 2)), .int (xs (i + 3)), .int (xs (i + 4)), .int (xs (i + 5)), .int (xs (i + 6)), .ref u]) (rest := []) C B dL_law_405 (w_fault J hm ((xs (i + 1))) ((xs (i + 2))) ((xs (i + 3))) ((xs (i + 4))) ((xs (i + 5))) ((xs (i + 6))) u hu ua G M.2.1 hst 0) rfl rfl (Nat.le_of_ble_eq_true rfl) (by omega) (by omega) (by omega) (q := 408) rfl (fun r h1 hr => ?_)
  obtain ⟨kc, rfl, kp1, v, w1, hu1, ⟨Q, hM, hQ⟩, hlo⟩ := hr
  show aw G 8 M 408 [.ref b, .ref (ad 0), .ref o, .ref u, .int (nI i), l5, l6, l7] [.int kc] h1 (k + 1) (n + 6)
  have ho1 := kp1 o _ ho (gJ_oa J) uo
  refine aw_istore (ls' := [.ref b, .ref (ad 0), .ref o, .ref u, .int (nI i), .int kc, l6, l7]) C dL_law_408 (by decide) rfl (q := 410) rfl ?_
  refine aw_aload_n C dL_law_410 rfl rfl (q := 411) rfl ?_
  refine aw_aload_n C dL_law_411 rfl rfl (q := 412) rfl ?_
  refine aw_iload C dL_law_412 rfl (q := 414) rfl ?_
  refine aw_iconst (v := 1) C dL_law_414 (by decide) (q := 415) rfl ?_
  refine aw_iadd C dL_law_415 (q := 416) rfl ?_
  refine aw_sld (j := i + 1) C dL_law_416 hX hbl hbA x1 (q := 417) rfl ?_
  refine aw_aload_n C dL_law_417 rfl rfl (q := 418) rfl ?_
  refine aw_iload C dL_law_418 rfl (q := 420) rfl ?_
  refine aw_iconst (v := 2) C dL_law_420 (by decide) (q := 421) rfl ?_
  refine aw_iadd C dL_law_421 (q := 422) rfl ?_
  refine aw_sld (j := i + 2) C dL_law_422 hX hbl hbA x2 (q := 423) rfl ?_
  refine aw_aload_n C dL_law_423 rfl rfl (q := 424) rfl ?_
  refine aw_iload C dL_law_424 rfl (q := 426) rfl ?_
  refine aw_iconst (v := 3) C dL_law_426 (by decide) (q := 427) rfl ?_
  refine aw_iadd C dL_law_427 (q := 428) rfl ?_
  refine aw_sld (j := i + 3) C dL_law_428 hX hbl hbA x3 (q := 429) rfl ?_
  refine aw_aload_n C dL_law_429 rfl rfl (q := 430) rfl ?_
  refine aw_iload C dL_law_430 rfl (q := 432) rfl ?_
  refine aw_iconst (v := 4) C dL_law_432 (by decide) (q := 433) rfl ?_
  refine aw_iadd C dL_law_433 (q := 434) rfl ?_
  refine aw_sld (j := i + 4) C dL_law_434 hX hbl hbA x4 (q := 435) rfl ?_
  refine aw_aload_n C dL_law_435 rfl rfl (q := 436) rfl ?_
  refine aw_iload C dL_law_436 rfl (q := 438) rfl ?_
  refine aw_iconst (v := 5) C dL_law_438 (by decide) (q := 439) rfl ?_
  refine aw_iadd C dL_law_439 (q := 440) rfl ?_
  refine aw_sld (j := i + 5) C dL_law_440 hX hbl hbA x5 (q := 441) rfl ?_
  refine aw_aload_n C dL_law_441 rfl rfl (q := 442) rfl ?_
  refine aw_iload C dL_law_442 rfl (q := 444) rfl ?_
  refine aw_bipush (v := 6) C dL_law_444 (by decide) (q := 446) rfl ?_
  refine aw_iadd C dL_law_446 (q := 447) rfl ?_
  refine aw_sld (j := i + 6) C dL_law_447 hX hbl hbA x6 (q := 448) rfl ?_
  refine cvL_97_9 (As := [.int (xs (i + 1)), .int (xs (i + 2)), .int (xs (i + 3)), .int (xs (i + 4)), .int (xs (i + 5)), .int (xs (i + 6))]) (rest := []) C B dL_law_448 ho1 (hM G M.2.1 0) rfl rfl (Nat.le_of_ble_eq_true rfl) (by omega) (by omega) (by omega) (q := 451) rfl (fun r2 h2 hr2 => ?_)
  obtain ⟨hv, ⟨bv, rfl⟩, s2, J2, hcode, kp2⟩ := hQ r2 h2 hr2
  show aw G 8 M 451 [.ref b, .ref (ad 0), .ref o, .ref u, .int (nI i), .int kc, l6, l7] [.int bv] h2 (k + 1 + 0) (n + 6 + 0)
  have hu2 := kp2 u _ hu1 um
  refine aw_istore (ls' := [.ref b, .ref (ad 0), .ref o, .ref u, .int (nI i), .int kc, .int bv, l7]) C dL_law_451 (by decide) rfl (q := 453) rfl ?_
  refine aw_aload_n C dL_law_453 rfl rfl (q := 454) rfl ?_
  refine cvL_81_9 (As := []) (rest := []) C B dL_law_454 J2.2.2.2.1.1 (m_thrown G M.2.1 o md J2.2.1 h2 0 s2 J2.2.2.2.1) rfl rfl (Nat.le_of_ble_eq_true rfl) (by omega) (by omega) (by omega) (q := 457) rfl (fun r3 h3 hr3 => ?_)
  obtain ⟨rfl, rfl⟩ := hr3
  show aw G 8 M 457 [.ref b, .ref (ad 0), .ref o, .ref u, .int (nI i), .int kc, .int bv, l7] [.int (s2.1 0)] h3 (k + 1 + 0 + 0) (n + 6 + 0 + 0)
  refine aw_iload C dL_law_457 rfl (q := 459) rfl ?_
  refine aw_icmp_eq (t := 464) (q := 462) C dL_law_459 (by decide) rfl (fun c1 => ?_) (fun c1 => absurd hcode c1)
  refine aw_iload C dL_law_464 rfl (q := 466) rfl ?_
  have fin : aw G 8 M 481 [.ref b, .ref (ad 0), .ref o, .ref u, .int (nI i), .int kc, .int bv, l7] [] h3 (k + 1 + 0 + 0) (n + 6 + 0 + 0) := by
    refine aw_goto (q := 1194) C dL_law_481 (by decide) ?_
    exact kk h3 _ _ _ _ _ ⟨s2, w1, J2, hu2⟩ (by omega) (by omega)
  refine aw_if_ne (t := 481) (q := 469) C dL_law_466 (by decide) rfl (fun _ => fin) (fun c2 => ?_)
  have hw : w1 0 = bv.toInt64 := by
    have e1 := hlo c2
    rw [← hv c2] at e1
    exact (Option.some.inj e1).symm
  refine aw_aload_n C dL_law_469 rfl rfl (q := 470) rfl ?_
  refine aw_iconst (v := 0) C dL_law_470 (by decide) (q := 471) rfl ?_
  refine ay_lald (N := 1) (j := 0) C dL_law_471 hu2 vin0 (by decide) (q := 472) rfl ?_
  refine aw_iload C dL_law_472 rfl (q := 474) rfl ?_
  refine aw_i2l C dL_law_474 (q := 475) rfl ?_
  refine aw_lcmp C dL_law_475 (q := 476) rfl ?_
  exact aw_if_eq (t := 481) (q := 479) C dL_law_476 (by decide) rfl (fun _ => fin) (fun c3 => absurd ((lg_cmp_eq _ _).mpr hw) c3)
theorem law_face (Z : lz G M ad o md b L u xs) (I : li ad o md u m h) (hm : m < 1000) (hi : i + 7 ≤ L) (hk : k + 7 ≤ 4000) (hn : n + 932 ≤ 500000) (kk : lk G M ad o md b u i m k n) (l5 l6 l7 : Value) : aw G 8 M 495 [.ref b, .ref (ad 0), .ref o, .ref u, .int (nI i), l5, l6, l7] [] h k n := by
  obtain ⟨C, B, hst, hX, hbl, hbA, hL, ua, um⟩ := Z
  obtain ⟨s, w, J, hu⟩ := I
  obtain ⟨fs9, ho⟩ := gJ_om J
  have uo : o ≠ u := fun z => um (by rw [← z]; exact List.mem_cons_self)
  have x1 : vp_in (nI i + 1) L ∧ (nI i + 1).toNatClampNeg = i + 1 := lx (j := 1) (by omega) hL
  refine aw_aload_n C dL_law_495 rfl rfl (q := 496) rfl ?_
  refine aw_aload_n C dL_law_496 rfl rfl (q := 497) rfl ?_
  refine aw_iload C dL_law_497 rfl (q := 499) rfl ?_
  refine aw_iconst (v := 1) C dL_law_499 (by decide) (q := 500) rfl ?_
  refine aw_iadd C dL_law_500 (q := 501) rfl ?_
  refine aw_sld (j := i + 1) C dL_law_501 hX hbl hbA x1 (q := 502) rfl ?_
  refine aw_aload_n C dL_law_502 rfl rfl (q := 503) rfl ?_
  refine csL_face (As := [.ref (ad 0), .int (xs (i + 1)), .ref u]) (rest := []) C B dL_law_503 (w_face J ((xs (i + 1))) u hu ua G M.2.1 hst 0) rfl rfl (Nat.le_of_ble_eq_true rfl) (by omega) (by omega) (by omega) (q := 506) rfl (fun r h1 hr => ?_)
  obtain ⟨kc, rfl, kp1, v, w1, hu1, ⟨Q, hM, hQ⟩, hlo⟩ := hr
  show aw G 8 M 506 [.ref b, .ref (ad 0), .ref o, .ref u, .int (nI i), l5, l6, l7] [.int kc] h1 (k + 1) (n + 6)
  have ho1 := kp1 o _ ho (gJ_oa J) uo
  refine aw_istore (ls' := [.ref b, .ref (ad 0), .ref o, .ref u, .int (nI i), .int kc, l6, l7]) C dL_law_506 (by decide) rfl (q := 508) rfl ?_
  refine aw_aload_n C dL_law_508 rfl rfl (q := 509) rfl ?_
  refine aw_aload_n C dL_law_509 rfl rfl (q := 510) rfl ?_
  refine aw_iload C dL_law_510 rfl (q := 512) rfl ?_
  refine aw_iconst (v := 1) C dL_law_512 (by decide) (q := 513) rfl ?_
  refine aw_iadd C dL_law_513 (q := 514) rfl ?_
  refine aw_sld (j := i + 1) C dL_law_514 hX hbl hbA x1 (q := 515) rfl ?_
  refine cvL_104_9 (As := [.int (xs (i + 1))]) (rest := []) C B dL_law_515 ho1 (hM G M.2.1 0) rfl rfl (Nat.le_of_ble_eq_true rfl) (by omega) (by omega) (by omega) (q := 518) rfl (fun r2 h2 hr2 => ?_)
  obtain ⟨hv, ⟨bv, rfl⟩, s2, J2, hcode, kp2⟩ := hQ r2 h2 hr2
  show aw G 8 M 518 [.ref b, .ref (ad 0), .ref o, .ref u, .int (nI i), .int kc, l6, l7] [.int bv] h2 (k + 1 + 0) (n + 6 + 0)
  have hu2 := kp2 u _ hu1 um
  refine aw_istore (ls' := [.ref b, .ref (ad 0), .ref o, .ref u, .int (nI i), .int kc, .int bv, l7]) C dL_law_518 (by decide) rfl (q := 520) rfl ?_
  refine aw_aload_n C dL_law_520 rfl rfl (q := 521) rfl ?_
  refine cvL_81_9 (As := []) (rest := []) C B dL_law_521 J2.2.2.2.1.1 (m_thrown G M.2.1 o md J2.2.1 h2 0 s2 J2.2.2.2.1) rfl rfl (Nat.le_of_ble_eq_true rfl) (by omega) (by omega) (by omega) (q := 524) rfl (fun r3 h3 hr3 => ?_)
  obtain ⟨rfl, rfl⟩ := hr3
  show aw G 8 M 524 [.ref b, .ref (ad 0), .ref o, .ref u, .int (nI i), .int kc, .int bv, l7] [.int (s2.1 0)] h3 (k + 1 + 0 + 0) (n + 6 + 0 + 0)
  refine aw_iload C dL_law_524 rfl (q := 526) rfl ?_
  refine aw_icmp_eq (t := 531) (q := 529) C dL_law_526 (by decide) rfl (fun c1 => ?_) (fun c1 => absurd hcode c1)
  refine aw_iload C dL_law_531 rfl (q := 533) rfl ?_
  have fin : aw G 8 M 548 [.ref b, .ref (ad 0), .ref o, .ref u, .int (nI i), .int kc, .int bv, l7] [] h3 (k + 1 + 0 + 0) (n + 6 + 0 + 0) := by
    refine aw_goto (q := 1194) C dL_law_548 (by decide) ?_
    exact kk h3 _ _ _ _ _ ⟨s2, w1, J2, hu2⟩ (by omega) (by omega)
  refine aw_if_ne (t := 548) (q := 536) C dL_law_533 (by decide) rfl (fun _ => fin) (fun c2 => ?_)
  have hw : w1 0 = bv.toInt64 := by
    have e1 := hlo c2
    rw [← hv c2] at e1
    exact (Option.some.inj e1).symm
  refine aw_aload_n C dL_law_536 rfl rfl (q := 537) rfl ?_
  refine aw_iconst (v := 0) C dL_law_537 (by decide) (q := 538) rfl ?_
  refine ay_lald (N := 1) (j := 0) C dL_law_538 hu2 vin0 (by decide) (q := 539) rfl ?_
  refine aw_iload C dL_law_539 rfl (q := 541) rfl ?_
  refine aw_i2l C dL_law_541 (q := 542) rfl ?_
  refine aw_lcmp C dL_law_542 (q := 543) rfl ?_
  exact aw_if_eq (t := 548) (q := 546) C dL_law_543 (by decide) rfl (fun _ => fin) (fun c3 => absurd ((lg_cmp_eq _ _).mpr hw) c3)
end

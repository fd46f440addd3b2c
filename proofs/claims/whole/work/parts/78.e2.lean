section EE3
variable {D : va_G} {ty : zT} {sz : Nat} {h : zH} {Q : zQ} {b L : Nat} {xs : Nat → Int32} {x m out lo : Int} {S : CS} {f j : Nat}
/-- the law's loop, from any state on -/
def LNext (D : va_G) (Q : zQ) (b L : Nat) (xs : Nat → Int32) (x m out lo : Int) (f j : Nat) : Prop := ∀ (ty : zT) (sz : Nat) (h : zH) (S : CS), LInv ty sz h x m out lo S → zX D (mLaw b L xs) 18 f (6 * f) 640 [(4, iV (6 * (j : Int))), (3, rV out), (2, rV m), (1, rV x), (0, rV b)] [] ty sz h Q

set_option maxHeartbeats 4000000 in
set_option maxRecDepth 100000 in
theorem law_c0 (I : LInv ty sz h x m out lo S) (hj : 6 * (j : Int) + 6 ≤ L) (hL : L ≤ 288) (kk : LNext D Q b L xs x m out lo f j) : zX D (mLaw b L xs) 18 (f + 1) (6 * f + 6) 100 [(4, iV (6 * (j : Int))), (3, rV out), (2, rV m), (1, rV x), (0, rV b)] [] ty sz h Q := by
  have hZ := I.1
  have hM := I.2.1
  have hx := hZ.1.2.1
  have hm := hM.1.2.1
  have ho := I.2.2.1
  have hO := hZ.ok
  have hbb := I.2.2.2.2
  refine x_aload_n (pc := 100) dL_law_100 rfl ?_
  refine x_aload_n (pc := 101) dL_law_101 rfl ?_
  refine x_iload (pc := 102) dL_law_102 rfl ?_
  refine x_iconst (pc := 104) dL_law_104 ?_
  refine x_iadd (pc := 105) dL_law_105 ?_
  refine x_sld (pc := 106) dL_law_106 (by omega) (by omega) (by omega) (fun b_106 => ?_)
  refine x_callV1 (pc := 107) dL_law_107 (k_RL_19 _ rfl) tmv_X6_sign (by assumption) rfl rfl rfl ?_
  refine x_room (d' := 2) (by omega) (Nat.le_refl _) (Nat.le_refl _) (C_sign (d := 0) hZ (by omega) (fun h1 F1 A1 => ?_))
  have M1 := I.mid (fun q y z => z) F1
  dsimp only [Option.toList, List.cons_append, List.nil_append]
  refine x_aload_n (pc := 110) dL_law_110 rfl ?_
  refine x_aload_n (pc := 111) dL_law_111 rfl ?_
  refine x_iload (pc := 112) dL_law_112 rfl ?_
  refine x_iconst (pc := 114) dL_law_114 ?_
  refine x_iadd (pc := 115) dL_law_115 ?_
  refine x_sld (pc := 116) dL_law_116 (by omega) (by omega) (by omega) (fun b_116 => ?_)
  refine x_callV1 (pc := 117) dL_law_117 (k_RL_23 _ rfl) tmv_X7_sign (by assumption) rfl rfl rfl ?_
  refine x_room (d' := 0) (by omega) (Nat.le_refl _) (Nat.le_refl _) (C_m_sign (d := 0) M1 (by omega) (fun h2 F2 M2 => ?_))
  dsimp only [Option.toList, List.cons_append, List.nil_append]
  refine x_goto (pc := 120) 640 dL_law_120 rfl ?_
  exact x_loc _ (by exact ⟨rfl, rfl, rfl, rfl, rfl, trivial⟩) (x_room (Nat.le_refl _) (by omega) (by omega) (kk _ _ _ _ (I.step (fun q y z => z) (Nat.le_refl _) A1 F2 M2 (by rw [cB_sign]; exact hbb))))

set_option maxHeartbeats 4000000 in
set_option maxRecDepth 100000 in
theorem law_c1 (I : LInv ty sz h x m out lo S) (hj : 6 * (j : Int) + 6 ≤ L) (hL : L ≤ 288) (kk : LNext D Q b L xs x m out lo f j) : zX D (mLaw b L xs) 18 (f + 1) (6 * f + 6) 123 [(4, iV (6 * (j : Int))), (3, rV out), (2, rV m), (1, rV x), (0, rV b)] [] ty sz h Q := by
  have hZ := I.1
  have hM := I.2.1
  have hx := hZ.1.2.1
  have hm := hM.1.2.1
  have ho := I.2.2.1
  have hO := hZ.ok
  have hbb := I.2.2.2.2
  refine x_aload_n (pc := 123) dL_law_123 rfl ?_
  refine x_callV0 (pc := 124) dL_law_124 (k_RL_24 _ rfl) tmv_X6_read (by assumption) rfl rfl rfl ?_
  refine x_room (d' := 7) (by omega) (Nat.le_refl _) (Nat.le_refl _) (C_read (d := 0) hZ hZ.parse (fun h1 F1 A1 => ?_))
  have M1 := I.mid (fun q y z => z) F1
  dsimp only [Option.toList, List.cons_append, List.nil_append]
  refine x_aload_n (pc := 127) dL_law_127 rfl ?_
  refine x_callV0 (pc := 128) dL_law_128 (k_RL_28 _ rfl) tmv_X7_read (by assumption) rfl rfl rfl ?_
  refine x_room (d' := 6) (by omega) (Nat.le_refl _) (Nat.le_refl _) (C_m_read (d := 0) M1  (fun h2 F2 M2 => ?_))
  dsimp only [Option.toList, List.cons_append, List.nil_append]
  refine x_icmp_eq (pc := 131) 640 dL_law_131 rfl (fun c_131 => ?_) (fun c_131 => ?_)
  · (try simp (disch := omega) only [zb_e0, zb_n0, w32_id, w64_id, ne_eq, Classical.not_not] at c_131)
    exact x_loc _ (by exact ⟨rfl, rfl, rfl, rfl, rfl, trivial⟩) (x_room (Nat.le_refl _) (by omega) (by omega) (kk _ _ _ _ (I.step (fun q y z => z) (Nat.le_refl _) A1 F2 M2 (by rw [cB_read]; exact hbb))))
  · (try simp (disch := omega) only [zb_e0, zb_n0, w32_id, w64_id, ne_eq, Classical.not_not] at c_131)
    all_goals exact absurd trivial c_131

set_option maxHeartbeats 4000000 in
set_option maxRecDepth 100000 in
theorem law_c3 (I : LInv ty sz h x m out lo S) (hj : 6 * (j : Int) + 6 ≤ L) (hL : L ≤ 288) (kk : LNext D Q b L xs x m out lo f j) : zX D (mLaw b L xs) 18 (f + 1) (6 * f + 6) 209 [(4, iV (6 * (j : Int))), (3, rV out), (2, rV m), (1, rV x), (0, rV b)] [] ty sz h Q := by
  have hZ := I.1
  have hM := I.2.1
  have hx := hZ.1.2.1
  have hm := hM.1.2.1
  have ho := I.2.2.1
  have hO := hZ.ok
  have hbb := I.2.2.2.2
  refine x_aload_n (pc := 209) dL_law_209 rfl ?_
  refine x_aload_n (pc := 210) dL_law_210 rfl ?_
  refine x_iload (pc := 211) dL_law_211 rfl ?_
  refine x_iconst (pc := 213) dL_law_213 ?_
  refine x_iadd (pc := 214) dL_law_214 ?_
  refine x_sld (pc := 215) dL_law_215 (by omega) (by omega) (by omega) (fun b_215 => ?_)
  refine x_aload_n (pc := 216) dL_law_216 rfl ?_
  refine x_iload (pc := 217) dL_law_217 rfl ?_
  refine x_iconst (pc := 219) dL_law_219 ?_
  refine x_iadd (pc := 220) dL_law_220 ?_
  refine x_sld (pc := 221) dL_law_221 (by omega) (by omega) (by omega) (fun b_221 => ?_)
  refine x_callV2 (pc := 222) dL_law_222 (k_RL_34 _ rfl) tmv_X6_service (by assumption) rfl rfl rfl ?_
  refine x_room (d' := 2) (by omega) (Nat.le_refl _) (Nat.le_refl _) (C_service (d := 0) hZ (by omega) (fun h1 F1 A1 => ?_))
  have M1 := I.mid (fun q y z => z) F1
  dsimp only [Option.toList, List.cons_append, List.nil_append]
  refine x_aload_n (pc := 225) dL_law_225 rfl ?_
  refine x_aload_n (pc := 226) dL_law_226 rfl ?_
  refine x_iload (pc := 227) dL_law_227 rfl ?_
  refine x_iconst (pc := 229) dL_law_229 ?_
  refine x_iadd (pc := 230) dL_law_230 ?_
  refine x_sld (pc := 231) dL_law_231 (by omega) (by omega) (by omega) (fun b_231 => ?_)
  refine x_aload_n (pc := 232) dL_law_232 rfl ?_
  refine x_iload (pc := 233) dL_law_233 rfl ?_
  refine x_iconst (pc := 235) dL_law_235 ?_
  refine x_iadd (pc := 236) dL_law_236 ?_
  refine x_sld (pc := 237) dL_law_237 (by omega) (by omega) (by omega) (fun b_237 => ?_)
  refine x_callV2 (pc := 238) dL_law_238 (k_RL_38 _ rfl) tmv_X7_service (by assumption) rfl rfl rfl ?_
  refine x_room (d' := 1) (by omega) (Nat.le_refl _) (Nat.le_refl _) (C_m_service (d := 0) M1 (by omega) (fun h2 F2 M2 => ?_))
  dsimp only [Option.toList, List.cons_append, List.nil_append]
  refine x_icmp_eq (pc := 241) 640 dL_law_241 rfl (fun c_241 => ?_) (fun c_241 => ?_)
  · (try simp (disch := omega) only [zb_e0, zb_n0, w32_id, w64_id, ne_eq, Classical.not_not] at c_241)
    exact x_loc _ (by exact ⟨rfl, rfl, rfl, rfl, rfl, trivial⟩) (x_room (Nat.le_refl _) (by omega) (by omega) (kk _ _ _ _ (I.step (fun q y z => z) (Nat.le_refl _) A1 F2 M2 (by rw [cB_service]; exact hbb))))
  · (try simp (disch := omega) only [zb_e0, zb_n0, w32_id, w64_id, ne_eq, Classical.not_not] at c_241)
    all_goals exact absurd trivial c_241

set_option maxHeartbeats 4000000 in
set_option maxRecDepth 100000 in
theorem law_c4 (I : LInv ty sz h x m out lo S) (hj : 6 * (j : Int) + 6 ≤ L) (hL : L ≤ 288) (kk : LNext D Q b L xs x m out lo f j) : zX D (mLaw b L xs) 18 (f + 1) (6 * f + 6) 246 [(4, iV (6 * (j : Int))), (3, rV out), (2, rV m), (1, rV x), (0, rV b)] [] ty sz h Q := by
  have hZ := I.1
  have hM := I.2.1
  have hx := hZ.1.2.1
  have hm := hM.1.2.1
  have ho := I.2.2.1
  have hO := hZ.ok
  have hbb := I.2.2.2.2
  refine x_aload_n (pc := 246) dL_law_246 rfl ?_
  refine x_aload_n (pc := 247) dL_law_247 rfl ?_
  refine x_iload (pc := 248) dL_law_248 rfl ?_
  refine x_iconst (pc := 250) dL_law_250 ?_
  refine x_iadd (pc := 251) dL_law_251 ?_
  refine x_sld (pc := 252) dL_law_252 (by omega) (by omega) (by omega) (fun b_252 => ?_)
  refine x_aload_n (pc := 253) dL_law_253 rfl ?_
  refine x_iload (pc := 254) dL_law_254 rfl ?_
  refine x_iconst (pc := 256) dL_law_256 ?_
  refine x_iadd (pc := 257) dL_law_257 ?_
  refine x_sld (pc := 258) dL_law_258 (by omega) (by omega) (by omega) (fun b_258 => ?_)
  refine x_aload_n (pc := 259) dL_law_259 rfl ?_
  refine x_iload (pc := 260) dL_law_260 rfl ?_
  refine x_iconst (pc := 262) dL_law_262 ?_
  refine x_iadd (pc := 263) dL_law_263 ?_
  refine x_sld (pc := 264) dL_law_264 (by omega) (by omega) (by omega) (fun b_264 => ?_)
  refine x_i2l (pc := 265) dL_law_265 ?_
  refine x_bipush (pc := 266) dL_law_266 (by decide) ?_
  refine x_lshl (pc := 268) dL_law_268 ?_
  refine x_aload_n (pc := 269) dL_law_269 rfl ?_
  refine x_iload (pc := 270) dL_law_270 rfl ?_
  refine x_iconst (pc := 272) dL_law_272 ?_
  refine x_iadd (pc := 273) dL_law_273 ?_
  refine x_sld (pc := 274) dL_law_274 (by omega) (by omega) (by omega) (fun b_274 => ?_)
  refine x_i2l (pc := 275) dL_law_275 ?_
  refine x_ldc2 (pc := 276) dL_law_276 (4294967295) tc_RL_39 (by decide) ?_
  refine x_land (pc := 279) dL_law_279 ?_
  refine x_lor (pc := 280) dL_law_280 ?_
  refine x_callV3 (pc := 281) dL_law_281 (k_RL_41 _ rfl) tmv_X6_price (by assumption) rfl rfl rfl ?_
  refine x_room (d' := 4) (by omega) (Nat.le_refl _) (Nat.le_refl _) (C_price (d := 0) hZ ⟨by omega, by omega, zorL_rng _ _⟩ (fun h1 F1 A1 => ?_))
  have M1 := I.mid (fun q y z => z) F1
  dsimp only [Option.toList, List.cons_append, List.nil_append]
  refine x_aload_n (pc := 284) dL_law_284 rfl ?_
  refine x_aload_n (pc := 285) dL_law_285 rfl ?_
  refine x_iload (pc := 286) dL_law_286 rfl ?_
  refine x_iconst (pc := 288) dL_law_288 ?_
  refine x_iadd (pc := 289) dL_law_289 ?_
  refine x_sld (pc := 290) dL_law_290 (by omega) (by omega) (by omega) (fun b_290 => ?_)
  refine x_aload_n (pc := 291) dL_law_291 rfl ?_
  refine x_iload (pc := 292) dL_law_292 rfl ?_
  refine x_iconst (pc := 294) dL_law_294 ?_
  refine x_iadd (pc := 295) dL_law_295 ?_
  refine x_sld (pc := 296) dL_law_296 (by omega) (by omega) (by omega) (fun b_296 => ?_)
  refine x_aload_n (pc := 297) dL_law_297 rfl ?_
  refine x_iload (pc := 298) dL_law_298 rfl ?_
  refine x_iconst (pc := 300) dL_law_300 ?_
  refine x_iadd (pc := 301) dL_law_301 ?_
  refine x_sld (pc := 302) dL_law_302 (by omega) (by omega) (by omega) (fun b_302 => ?_)
  refine x_i2l (pc := 303) dL_law_303 ?_
  refine x_bipush (pc := 304) dL_law_304 (by decide) ?_
  refine x_lshl (pc := 306) dL_law_306 ?_
  refine x_aload_n (pc := 307) dL_law_307 rfl ?_
  refine x_iload (pc := 308) dL_law_308 rfl ?_
  refine x_iconst (pc := 310) dL_law_310 ?_
  refine x_iadd (pc := 311) dL_law_311 ?_
  refine x_sld (pc := 312) dL_law_312 (by omega) (by omega) (by omega) (fun b_312 => ?_)
  refine x_i2l (pc := 313) dL_law_313 ?_
  refine x_ldc2 (pc := 314) dL_law_314 (4294967295) tc_RL_39 (by decide) ?_
  refine x_land (pc := 317) dL_law_317 ?_
  refine x_lor (pc := 318) dL_law_318 ?_
  refine x_callV3 (pc := 319) dL_law_319 (k_RL_45 _ rfl) tmv_X7_price (by assumption) rfl rfl rfl ?_
  refine x_room (d' := 4) (by omega) (Nat.le_refl _) (Nat.le_refl _) (C_m_price (d := 0) M1 ⟨by omega, by omega, zorL_rng _ _⟩ (fun h2 F2 M2 => ?_))
  dsimp only [Option.toList, List.cons_append, List.nil_append]
  refine x_lcmp_eq (pc := 322) 640 dL_law_322 dL_law_323 rfl (fun c_322 => ?_) (fun c_322 => ?_)
  · (try simp (disch := omega) only [zb_e0, zb_n0, w32_id, w64_id, ne_eq, Classical.not_not] at c_322)
    exact x_loc _ (by exact ⟨rfl, rfl, rfl, rfl, rfl, trivial⟩) (x_room (Nat.le_refl _) (by omega) (by omega) (kk _ _ _ _ (I.step (fun q y z => z) (Nat.le_refl _) A1 F2 M2 (cB_price hO hZ.its hbb))))
  · (try simp (disch := omega) only [zb_e0, zb_n0, w32_id, w64_id, ne_eq, Classical.not_not] at c_322)
    all_goals exact absurd trivial c_322

set_option maxHeartbeats 4000000 in
set_option maxRecDepth 100000 in
theorem law_c5 (I : LInv ty sz h x m out lo S) (hj : 6 * (j : Int) + 6 ≤ L) (hL : L ≤ 288) (kk : LNext D Q b L xs x m out lo f j) : zX D (mLaw b L xs) 18 (f + 1) (6 * f + 6) 328 [(4, iV (6 * (j : Int))), (3, rV out), (2, rV m), (1, rV x), (0, rV b)] [] ty sz h Q := by
  have hZ := I.1
  have hM := I.2.1
  have hx := hZ.1.2.1
  have hm := hM.1.2.1
  have ho := I.2.2.1
  have hO := hZ.ok
  have hbb := I.2.2.2.2
  refine x_aload_n (pc := 328) dL_law_328 rfl ?_
  refine x_aload_n (pc := 329) dL_law_329 rfl ?_
  refine x_iload (pc := 330) dL_law_330 rfl ?_
  refine x_iconst (pc := 332) dL_law_332 ?_
  refine x_iadd (pc := 333) dL_law_333 ?_
  refine x_sld (pc := 334) dL_law_334 (by omega) (by omega) (by omega) (fun b_334 => ?_)
  refine x_aload_n (pc := 335) dL_law_335 rfl ?_
  refine x_iload (pc := 336) dL_law_336 rfl ?_
  refine x_iconst (pc := 338) dL_law_338 ?_
  refine x_iadd (pc := 339) dL_law_339 ?_
  refine x_sld (pc := 340) dL_law_340 (by omega) (by omega) (by omega) (fun b_340 => ?_)
  refine x_aload_n (pc := 341) dL_law_341 rfl ?_
  refine x_iload (pc := 342) dL_law_342 rfl ?_
  refine x_iconst (pc := 344) dL_law_344 ?_
  refine x_iadd (pc := 345) dL_law_345 ?_
  refine x_sld (pc := 346) dL_law_346 (by omega) (by omega) (by omega) (fun b_346 => ?_)
  refine x_i2l (pc := 347) dL_law_347 ?_
  refine x_bipush (pc := 348) dL_law_348 (by decide) ?_
  refine x_lshl (pc := 350) dL_law_350 ?_
  refine x_aload_n (pc := 351) dL_law_351 rfl ?_
  refine x_iload (pc := 352) dL_law_352 rfl ?_
  refine x_iconst (pc := 354) dL_law_354 ?_
  refine x_iadd (pc := 355) dL_law_355 ?_
  refine x_sld (pc := 356) dL_law_356 (by omega) (by omega) (by omega) (fun b_356 => ?_)
  refine x_i2l (pc := 357) dL_law_357 ?_
  refine x_ldc2 (pc := 358) dL_law_358 (4294967295) tc_RL_39 (by decide) ?_
  refine x_land (pc := 361) dL_law_361 ?_
  refine x_lor (pc := 362) dL_law_362 ?_
  refine x_callV3 (pc := 363) dL_law_363 (k_RL_46 _ rfl) tmv_X6_least (by assumption) rfl rfl rfl ?_
  refine x_room (d' := 4) (by omega) (Nat.le_refl _) (Nat.le_refl _) (C_least (d := 0) hZ ⟨by omega, by omega, zorL_rng _ _⟩ (fun h1 F1 A1 => ?_))
  have M1 := I.mid (fun q y z => z) F1
  dsimp only [Option.toList, List.cons_append, List.nil_append]
  refine x_aload_n (pc := 366) dL_law_366 rfl ?_
  refine x_aload_n (pc := 367) dL_law_367 rfl ?_
  refine x_iload (pc := 368) dL_law_368 rfl ?_
  refine x_iconst (pc := 370) dL_law_370 ?_
  refine x_iadd (pc := 371) dL_law_371 ?_
  refine x_sld (pc := 372) dL_law_372 (by omega) (by omega) (by omega) (fun b_372 => ?_)
  refine x_aload_n (pc := 373) dL_law_373 rfl ?_
  refine x_iload (pc := 374) dL_law_374 rfl ?_
  refine x_iconst (pc := 376) dL_law_376 ?_
  refine x_iadd (pc := 377) dL_law_377 ?_
  refine x_sld (pc := 378) dL_law_378 (by omega) (by omega) (by omega) (fun b_378 => ?_)
  refine x_aload_n (pc := 379) dL_law_379 rfl ?_
  refine x_iload (pc := 380) dL_law_380 rfl ?_
  refine x_iconst (pc := 382) dL_law_382 ?_
  refine x_iadd (pc := 383) dL_law_383 ?_
  refine x_sld (pc := 384) dL_law_384 (by omega) (by omega) (by omega) (fun b_384 => ?_)
  refine x_i2l (pc := 385) dL_law_385 ?_
  refine x_bipush (pc := 386) dL_law_386 (by decide) ?_
  refine x_lshl (pc := 388) dL_law_388 ?_
  refine x_aload_n (pc := 389) dL_law_389 rfl ?_
  refine x_iload (pc := 390) dL_law_390 rfl ?_
  refine x_iconst (pc := 392) dL_law_392 ?_
  refine x_iadd (pc := 393) dL_law_393 ?_
  refine x_sld (pc := 394) dL_law_394 (by omega) (by omega) (by omega) (fun b_394 => ?_)
  refine x_i2l (pc := 395) dL_law_395 ?_
  refine x_ldc2 (pc := 396) dL_law_396 (4294967295) tc_RL_39 (by decide) ?_
  refine x_land (pc := 399) dL_law_399 ?_
  refine x_lor (pc := 400) dL_law_400 ?_
  refine x_callV3 (pc := 401) dL_law_401 (k_RL_50 _ rfl) tmv_X7_least (by assumption) rfl rfl rfl ?_
  refine x_room (d' := 4) (by omega) (Nat.le_refl _) (Nat.le_refl _) (C_m_least (d := 0) M1 ⟨by omega, by omega, zorL_rng _ _⟩ (fun h2 F2 M2 => ?_))
  dsimp only [Option.toList, List.cons_append, List.nil_append]
  refine x_icmp_eq (pc := 404) 640 dL_law_404 rfl (fun c_404 => ?_) (fun c_404 => ?_)
  · (try simp (disch := omega) only [zb_e0, zb_n0, w32_id, w64_id, ne_eq, Classical.not_not] at c_404)
    exact x_loc _ (by exact ⟨rfl, rfl, rfl, rfl, rfl, trivial⟩) (x_room (Nat.le_refl _) (by omega) (by omega) (kk _ _ _ _ (I.step (fun q y z => z) (Nat.le_refl _) A1 F2 M2 (hbb))))
  · (try simp (disch := omega) only [zb_e0, zb_n0, w32_id, w64_id, ne_eq, Classical.not_not] at c_404)
    all_goals exact absurd trivial c_404

set_option maxHeartbeats 4000000 in
set_option maxRecDepth 100000 in
theorem law_c6 (I : LInv ty sz h x m out lo S) (hj : 6 * (j : Int) + 6 ≤ L) (hL : L ≤ 288) (kk : LNext D Q b L xs x m out lo f j) : zX D (mLaw b L xs) 18 (f + 1) (6 * f + 6) 409 [(4, iV (6 * (j : Int))), (3, rV out), (2, rV m), (1, rV x), (0, rV b)] [] ty sz h Q := by
  have hZ := I.1
  have hM := I.2.1
  have hx := hZ.1.2.1
  have hm := hM.1.2.1
  have ho := I.2.2.1
  have hO := hZ.ok
  have hbb := I.2.2.2.2
  refine x_aload_n (pc := 409) dL_law_409 rfl ?_
  refine x_aload_n (pc := 410) dL_law_410 rfl ?_
  refine x_iload (pc := 411) dL_law_411 rfl ?_
  refine x_iconst (pc := 413) dL_law_413 ?_
  refine x_iadd (pc := 414) dL_law_414 ?_
  refine x_sld (pc := 415) dL_law_415 (by omega) (by omega) (by omega) (fun b_415 => ?_)
  refine x_aload_n (pc := 416) dL_law_416 rfl ?_
  refine x_iload (pc := 417) dL_law_417 rfl ?_
  refine x_iconst (pc := 419) dL_law_419 ?_
  refine x_iadd (pc := 420) dL_law_420 ?_
  refine x_sld (pc := 421) dL_law_421 (by omega) (by omega) (by omega) (fun b_421 => ?_)
  refine x_callV2 (pc := 422) dL_law_422 (k_RL_51 _ rfl) tmv_X6_explain (by assumption) rfl rfl rfl ?_
  refine x_room (d' := 2) (by omega) (Nat.le_refl _) (Nat.le_refl _) (C_explain (d := 0) hZ (by omega) (fun h1 F1 A1 => ?_))
  have M1 := I.mid (fun q y z => z) F1
  dsimp only [Option.toList, List.cons_append, List.nil_append]
  refine x_aload_n (pc := 425) dL_law_425 rfl ?_
  refine x_aload_n (pc := 426) dL_law_426 rfl ?_
  refine x_iload (pc := 427) dL_law_427 rfl ?_
  refine x_iconst (pc := 429) dL_law_429 ?_
  refine x_iadd (pc := 430) dL_law_430 ?_
  refine x_sld (pc := 431) dL_law_431 (by omega) (by omega) (by omega) (fun b_431 => ?_)
  refine x_aload_n (pc := 432) dL_law_432 rfl ?_
  refine x_iload (pc := 433) dL_law_433 rfl ?_
  refine x_iconst (pc := 435) dL_law_435 ?_
  refine x_iadd (pc := 436) dL_law_436 ?_
  refine x_sld (pc := 437) dL_law_437 (by omega) (by omega) (by omega) (fun b_437 => ?_)
  refine x_callV2 (pc := 438) dL_law_438 (k_RL_54 _ rfl) tmv_X7_explain (by assumption) rfl rfl rfl ?_
  refine x_room (d' := 0) (by omega) (Nat.le_refl _) (Nat.le_refl _) (C_m_explain (d := 0) M1 (by omega) hbb (fun h2 F2 M2 => ?_))
  dsimp only [Option.toList, List.cons_append, List.nil_append]
  refine x_icmp_eq (pc := 441) 640 dL_law_441 rfl (fun c_441 => ?_) (fun c_441 => ?_)
  · (try simp (disch := omega) only [zb_e0, zb_n0, w32_id, w64_id, ne_eq, Classical.not_not] at c_441)
    exact x_loc _ (by exact ⟨rfl, rfl, rfl, rfl, rfl, trivial⟩) (x_room (Nat.le_refl _) (by omega) (by omega) (kk _ _ _ _ (I.step (fun q y z => z) (Nat.le_refl _) A1 F2 M2 (hbb))))
  · (try simp (disch := omega) only [zb_e0, zb_n0, w32_id, w64_id, ne_eq, Classical.not_not] at c_441)
    all_goals exact absurd trivial c_441

set_option maxHeartbeats 4000000 in
set_option maxRecDepth 100000 in
theorem law_c8 (I : LInv ty sz h x m out lo S) (hj : 6 * (j : Int) + 6 ≤ L) (hL : L ≤ 288) (kk : LNext D Q b L xs x m out lo f j) : zX D (mLaw b L xs) 18 (f + 1) (6 * f + 6) 577 [(4, iV (6 * (j : Int))), (3, rV out), (2, rV m), (1, rV x), (0, rV b)] [] ty sz h Q := by
  have hZ := I.1
  have hM := I.2.1
  have hx := hZ.1.2.1
  have hm := hM.1.2.1
  have ho := I.2.2.1
  have hO := hZ.ok
  have hbb := I.2.2.2.2
  refine x_aload_n (pc := 577) dL_law_577 rfl ?_
  refine x_aload_n (pc := 578) dL_law_578 rfl ?_
  refine x_iload (pc := 579) dL_law_579 rfl ?_
  refine x_iconst (pc := 581) dL_law_581 ?_
  refine x_iadd (pc := 582) dL_law_582 ?_
  refine x_sld (pc := 583) dL_law_583 (by omega) (by omega) (by omega) (fun b_583 => ?_)
  refine x_callV1 (pc := 584) dL_law_584 (k_RL_64 _ rfl) tmv_X6_compare (by assumption) rfl rfl rfl ?_
  refine x_room (d' := 3) (by omega) (Nat.le_refl _) (Nat.le_refl _) (C_compare (d := 0) hZ (by omega) (fun h1 F1 A1 => ?_))
  have M1 := I.mid (fun q y z => z) F1
  dsimp only [Option.toList, List.cons_append, List.nil_append]
  refine x_aload_n (pc := 587) dL_law_587 rfl ?_
  refine x_aload_n (pc := 588) dL_law_588 rfl ?_
  refine x_iload (pc := 589) dL_law_589 rfl ?_
  refine x_iconst (pc := 591) dL_law_591 ?_
  refine x_iadd (pc := 592) dL_law_592 ?_
  refine x_sld (pc := 593) dL_law_593 (by omega) (by omega) (by omega) (fun b_593 => ?_)
  refine x_callV1 (pc := 594) dL_law_594 (k_RL_68 _ rfl) tmv_X7_compare (by assumption) rfl rfl rfl ?_
  refine x_room (d' := 5) (by omega) (Nat.le_refl _) (Nat.le_refl _) (C_m_compare (d := 0) M1 hO (by omega) (fun h2 F2 M2 => ?_))
  dsimp only [Option.toList, List.cons_append, List.nil_append]
  refine x_icmp_eq (pc := 597) 640 dL_law_597 rfl (fun c_597 => ?_) (fun c_597 => ?_)
  · (try simp (disch := omega) only [zb_e0, zb_n0, w32_id, w64_id, ne_eq, Classical.not_not] at c_597)
    exact x_loc _ (by exact ⟨rfl, rfl, rfl, rfl, rfl, trivial⟩) (x_room (Nat.le_refl _) (by omega) (by omega) (kk _ _ _ _ (I.step (fun q y z => z) (Nat.le_refl _) A1 F2 M2 (hbb))))
  · (try simp (disch := omega) only [zb_e0, zb_n0, w32_id, w64_id, ne_eq, Classical.not_not] at c_597)
    all_goals exact absurd trivial c_597

set_option maxHeartbeats 4000000 in
set_option maxRecDepth 100000 in
theorem law_c9 (I : LInv ty sz h x m out lo S) (hj : 6 * (j : Int) + 6 ≤ L) (hL : L ≤ 288) (kk : LNext D Q b L xs x m out lo f j) : zX D (mLaw b L xs) 18 (f + 1) (6 * f + 6) 602 [(4, iV (6 * (j : Int))), (3, rV out), (2, rV m), (1, rV x), (0, rV b)] [] ty sz h Q := by
  have hZ := I.1
  have hM := I.2.1
  have hx := hZ.1.2.1
  have hm := hM.1.2.1
  have ho := I.2.2.1
  have hO := hZ.ok
  have hbb := I.2.2.2.2
  refine x_aload_n (pc := 602) dL_law_602 rfl ?_
  refine x_callV0 (pc := 603) dL_law_603 (k_RL_69 _ rfl) tmv_X6_print (by assumption) rfl rfl rfl ?_
  refine x_room (d' := 6) (by omega) (Nat.le_refl _) (Nat.le_refl _) (C_print (d := 0) hZ  (fun h1 F1 A1 => ?_))
  have M1 := I.mid (fun q y z => z) F1
  dsimp only [Option.toList, List.cons_append, List.nil_append]
  refine x_aload_n (pc := 606) dL_law_606 rfl ?_
  refine x_callV0 (pc := 607) dL_law_607 (k_RL_72 _ rfl) tmv_X7_print (by assumption) rfl rfl rfl ?_
  refine x_room (d' := 5) (by omega) (Nat.le_refl _) (Nat.le_refl _) (C_m_print (d := 0) M1 hO (fun h2 F2 M2 => ?_))
  dsimp only [Option.toList, List.cons_append, List.nil_append]
  refine x_icmp_eq (pc := 610) 640 dL_law_610 rfl (fun c_610 => ?_) (fun c_610 => ?_)
  · (try simp (disch := omega) only [zb_e0, zb_n0, w32_id, w64_id, ne_eq, Classical.not_not] at c_610)
    exact x_loc _ (by exact ⟨rfl, rfl, rfl, rfl, rfl, trivial⟩) (x_room (Nat.le_refl _) (by omega) (by omega) (kk _ _ _ _ (I.step (fun q y z => z) (Nat.le_refl _) A1 F2 M2 (by rw [cB_print]; exact hbb))))
  · (try simp (disch := omega) only [zb_e0, zb_n0, w32_id, w64_id, ne_eq, Classical.not_not] at c_610)
    all_goals exact absurd trivial c_610

set_option maxHeartbeats 4000000 in
set_option maxRecDepth 100000 in
theorem law_c10 (I : LInv ty sz h x m out lo S) (hj : 6 * (j : Int) + 6 ≤ L) (hL : L ≤ 288) (kk : LNext D Q b L xs x m out lo f j) : zX D (mLaw b L xs) 18 (f + 1) (6 * f + 6) 615 [(4, iV (6 * (j : Int))), (3, rV out), (2, rV m), (1, rV x), (0, rV b)] [] ty sz h Q := by
  have hZ := I.1
  have hM := I.2.1
  have hx := hZ.1.2.1
  have hm := hM.1.2.1
  have ho := I.2.2.1
  have hO := hZ.ok
  have hbb := I.2.2.2.2
  refine x_aload_n (pc := 615) dL_law_615 rfl ?_
  refine x_aload_n (pc := 616) dL_law_616 rfl ?_
  refine x_iload (pc := 617) dL_law_617 rfl ?_
  refine x_iconst (pc := 619) dL_law_619 ?_
  refine x_iadd (pc := 620) dL_law_620 ?_
  refine x_sld (pc := 621) dL_law_621 (by omega) (by omega) (by omega) (fun b_621 => ?_)
  refine x_callV1 (pc := 622) dL_law_622 (k_RL_73 _ rfl) tmv_X6_at (by assumption) rfl rfl rfl ?_
  refine x_room (d' := 2) (by omega) (Nat.le_refl _) (Nat.le_refl _) (C_at (d := 0) hZ (by omega) (fun h1 F1 A1 => ?_))
  have M1 := I.mid (fun q y z => z) F1
  dsimp only [Option.toList, List.cons_append, List.nil_append]
  refine x_aload_n (pc := 625) dL_law_625 rfl ?_
  refine x_aload_n (pc := 626) dL_law_626 rfl ?_
  refine x_iload (pc := 627) dL_law_627 rfl ?_
  refine x_iconst (pc := 629) dL_law_629 ?_
  refine x_iadd (pc := 630) dL_law_630 ?_
  refine x_sld (pc := 631) dL_law_631 (by omega) (by omega) (by omega) (fun b_631 => ?_)
  refine x_callV1 (pc := 632) dL_law_632 (k_RL_76 _ rfl) tmv_X7_at (by assumption) rfl rfl rfl ?_
  refine x_room (d' := 0) (by omega) (Nat.le_refl _) (Nat.le_refl _) (C_m_at (d := 0) M1 (by omega) (fun h2 F2 M2 => ?_))
  dsimp only [Option.toList, List.cons_append, List.nil_append]
  refine x_icmp_eq (pc := 635) 640 dL_law_635 rfl (fun c_635 => ?_) (fun c_635 => ?_)
  · (try simp (disch := omega) only [zb_e0, zb_n0, w32_id, w64_id, ne_eq, Classical.not_not] at c_635)
    exact x_loc _ (by exact ⟨rfl, rfl, rfl, rfl, rfl, trivial⟩) (x_room (Nat.le_refl _) (by omega) (by omega) (kk _ _ _ _ (I.step (fun q y z => z) (Nat.le_refl _) A1 F2 M2 (hbb))))
  · (try simp (disch := omega) only [zb_e0, zb_n0, w32_id, w64_id, ne_eq, Classical.not_not] at c_635)
    all_goals exact absurd trivial c_635

set_option maxHeartbeats 4000000 in
set_option maxRecDepth 100000 in
theorem law_c2 (I : LInv ty sz h x m out lo S) (hj : 6 * (j : Int) + 6 ≤ L) (hL : L ≤ 288) (kk : LNext D Q b L xs x m out lo f j) : zX D (mLaw b L xs) 18 (f + 1) (6 * f + 6) 136 [(4, iV (6 * (j : Int))), (3, rV out), (2, rV m), (1, rV x), (0, rV b)] [] ty sz h Q := by
  have hZ := I.1
  have hM := I.2.1
  have hx := hZ.1.2.1
  have hm := hM.1.2.1
  have ho := I.2.2.1
  have hO := hZ.ok
  have hbb := I.2.2.2.2
  refine x_aload_n (pc := 136) dL_law_136 rfl ?_
  refine x_aload_n (pc := 137) dL_law_137 rfl ?_
  refine x_iload (pc := 138) dL_law_138 rfl ?_
  refine x_iconst (pc := 140) dL_law_140 ?_
  refine x_iadd (pc := 141) dL_law_141 ?_
  refine x_sld (pc := 142) dL_law_142 (by omega) (by omega) (by omega) (fun b_142 => ?_)
  refine x_aload_n (pc := 143) dL_law_143 rfl ?_
  refine x_iload (pc := 144) dL_law_144 rfl ?_
  refine x_iconst (pc := 146) dL_law_146 ?_
  refine x_iadd (pc := 147) dL_law_147 ?_
  refine x_sld (pc := 148) dL_law_148 (by omega) (by omega) (by omega) (fun b_148 => ?_)
  refine x_aload_n (pc := 149) dL_law_149 rfl ?_
  refine x_iload (pc := 150) dL_law_150 rfl ?_
  refine x_iconst (pc := 152) dL_law_152 ?_
  refine x_iadd (pc := 153) dL_law_153 ?_
  refine x_sld (pc := 154) dL_law_154 (by omega) (by omega) (by omega) (fun b_154 => ?_)
  refine x_aload_n (pc := 155) dL_law_155 rfl ?_
  refine x_iload (pc := 156) dL_law_156 rfl ?_
  refine x_iconst (pc := 158) dL_law_158 ?_
  refine x_iadd (pc := 159) dL_law_159 ?_
  refine x_sld (pc := 160) dL_law_160 (by omega) (by omega) (by omega) (fun b_160 => ?_)
  refine x_aload_n (pc := 161) dL_law_161 rfl ?_
  refine x_iload (pc := 162) dL_law_162 rfl ?_
  refine x_iconst (pc := 164) dL_law_164 ?_
  refine x_iadd (pc := 165) dL_law_165 ?_
  refine x_sld (pc := 166) dL_law_166 (by omega) (by omega) (by omega) (fun b_166 => ?_)
  refine x_invV0 (pc := 167) (d := 17) (k := f) (n := 6 * f) (k' := 1) (n' := 6) (st := []) (As := [iV (sv xs (6 * (j : Int) + 1)), iV (sv xs (6 * (j : Int) + 2)), iV (sv xs (6 * (j : Int) + 3)), iV (sv xs (6 * (j : Int) + 4)), iV (sv xs (6 * (j : Int) + 5))]) dL_law_167 (k_RL_29 _ rfl) tmv_X6_item ⟨6, 8, _, _, hx, by decide, rfl, rfl⟩ (Nat.le_of_ble_eq_true rfl) (Nat.le_of_ble_eq_true rfl) (Q' := fun v t z g => zX D (mLaw b L xs) 18 f (6 * f) 170 [(4, iV (6 * (j : Int))), (3, rV out), (2, rV m), (1, rV x), (0, rV b)] (v.toList ++ []) t z g Q) (x_room (d' := 2) (by omega) (Nat.le_refl _) (Nat.le_refl _) (C_item (d := 0) hZ I.2.2.2.1.2.2.2 ⟨by omega, by omega, by omega, by omega, by omega⟩ (fun ty1 sz1 h1 hz1 hz2 ht1 F1 A1 => ?_))) (fun _ _ _ _ q => q)
  have M1 := I.mid ht1 F1
  have hm1 := M1.1.2.1
  dsimp only [Option.toList, List.cons_append, List.nil_append]
  refine x_aload_n (pc := 170) dL_law_170 rfl ?_
  refine x_aload_n (pc := 171) dL_law_171 rfl ?_
  refine x_iload (pc := 172) dL_law_172 rfl ?_
  refine x_iconst (pc := 174) dL_law_174 ?_
  refine x_iadd (pc := 175) dL_law_175 ?_
  refine x_sld (pc := 176) dL_law_176 (by omega) (by omega) (by omega) (fun b_176 => ?_)
  refine x_aload_n (pc := 177) dL_law_177 rfl ?_
  refine x_iload (pc := 178) dL_law_178 rfl ?_
  refine x_iconst (pc := 180) dL_law_180 ?_
  refine x_iadd (pc := 181) dL_law_181 ?_
  refine x_sld (pc := 182) dL_law_182 (by omega) (by omega) (by omega) (fun b_182 => ?_)
  refine x_aload_n (pc := 183) dL_law_183 rfl ?_
  refine x_iload (pc := 184) dL_law_184 rfl ?_
  refine x_iconst (pc := 186) dL_law_186 ?_
  refine x_iadd (pc := 187) dL_law_187 ?_
  refine x_sld (pc := 188) dL_law_188 (by omega) (by omega) (by omega) (fun b_188 => ?_)
  refine x_aload_n (pc := 189) dL_law_189 rfl ?_
  refine x_iload (pc := 190) dL_law_190 rfl ?_
  refine x_iconst (pc := 192) dL_law_192 ?_
  refine x_iadd (pc := 193) dL_law_193 ?_
  refine x_sld (pc := 194) dL_law_194 (by omega) (by omega) (by omega) (fun b_194 => ?_)
  refine x_aload_n (pc := 195) dL_law_195 rfl ?_
  refine x_iload (pc := 196) dL_law_196 rfl ?_
  refine x_iconst (pc := 198) dL_law_198 ?_
  refine x_iadd (pc := 199) dL_law_199 ?_
  refine x_sld (pc := 200) dL_law_200 (by omega) (by omega) (by omega) (fun b_200 => ?_)
  refine x_callV5 (pc := 201) dL_law_201 (k_RL_33 _ rfl) tmv_X7_item (by assumption) rfl rfl rfl ?_
  refine x_room (d' := 1) (by omega) (Nat.le_refl _) (Nat.le_refl _) (C_m_item (d := 0) M1 ⟨by omega, by omega, by omega, by omega, by omega⟩ (fun h2 F2 M2 => ?_))
  dsimp only [Option.toList, List.cons_append, List.nil_append]
  refine x_icmp_eq (pc := 204) 640 dL_law_204 rfl (fun c_204 => ?_) (fun c_204 => ?_)
  · (try simp (disch := omega) only [zb_e0, zb_n0, w32_id, w64_id, ne_eq, Classical.not_not] at c_204)
    exact x_loc _ (by exact ⟨rfl, rfl, rfl, rfl, rfl, trivial⟩) (kk _ _ _ _ (I.step ht1 (by omega) A1 F2 M2 (by rw [cB_item]; exact hbb)))
  · (try simp (disch := omega) only [zb_e0, zb_n0, w32_id, w64_id, ne_eq, Classical.not_not] at c_204)
    all_goals exact absurd trivial c_204

set_option maxHeartbeats 4000000 in
set_option maxRecDepth 100000 in
theorem law_c7b {t v n : Int} (I : LInv ty sz h x m out lo S) (hj : 6 * (j : Int) + 6 ≤ L) (hL : L ≤ 288) (kk : LNext D Q b L xs x m out lo f j) (ht : t = dimT v n) (hv : v = (zorL (zshlL (w32 (sv xs (6 * (j : Int) + 1))) 32) (zandL (w32 (sv xs (6 * (j : Int) + 2))) 4294967295))) (hn : n = (zorL (zshlL (w32 (sv xs (6 * (j : Int) + 3))) 32) (zandL (w32 (sv xs (6 * (j : Int) + 4))) 4294967295))) (hi : i64 v ∧ i64 n) (hout : t = 0 → h out 0 = dimV v n) : zX D (mLaw b L xs) 18 f (6 * f) 495 [(4, iV (6 * (j : Int))), (3, rV out), (2, rV m), (1, rV x), (0, rV b)] [iV t] ty sz h Q := by
  have hZ := I.1
  have hM := I.2.1
  have hx := hZ.1.2.1
  have hm := hM.1.2.1
  have ho := I.2.2.1
  have hO := hZ.ok
  have hbb := I.2.2.2.2
  have h01 : t = 0 ∨ t = 1 := by
    rw [ht]
    unfold dimT
    split
    · exact Or.inr rfl
    · exact Or.inl rfl
  have hor := ho.1
  have hl1 := I.2.2.2.1
  have hdr := dimV_rng hi
  refine x_istore (pc := 495) dL_law_495 (by exact Nat.le_of_ble_eq_true rfl) ?_
  refine x_aload_n (pc := 497) dL_law_497 rfl ?_
  refine x_aload_n (pc := 498) dL_law_498 rfl ?_
  refine x_iload (pc := 499) dL_law_499 rfl ?_
  refine x_iconst (pc := 501) dL_law_501 ?_
  refine x_iadd (pc := 502) dL_law_502 ?_
  refine x_sld (pc := 503) dL_law_503 (by omega) (by omega) (by omega) (fun b_503 => ?_)
  refine x_i2l (pc := 504) dL_law_504 ?_
  refine x_bipush (pc := 505) dL_law_505 (by decide) ?_
  refine x_lshl (pc := 507) dL_law_507 ?_
  refine x_aload_n (pc := 508) dL_law_508 rfl ?_
  refine x_iload (pc := 509) dL_law_509 rfl ?_
  refine x_iconst (pc := 511) dL_law_511 ?_
  refine x_iadd (pc := 512) dL_law_512 ?_
  refine x_sld (pc := 513) dL_law_513 (by omega) (by omega) (by omega) (fun b_513 => ?_)
  refine x_i2l (pc := 514) dL_law_514 ?_
  refine x_ldc2 (pc := 515) dL_law_515 (4294967295) tc_RL_39 (by decide) ?_
  refine x_land (pc := 518) dL_law_518 ?_
  refine x_lor (pc := 519) dL_law_519 ?_
  refine x_aload_n (pc := 520) dL_law_520 rfl ?_
  refine x_iload (pc := 521) dL_law_521 rfl ?_
  refine x_iconst (pc := 523) dL_law_523 ?_
  refine x_iadd (pc := 524) dL_law_524 ?_
  refine x_sld (pc := 525) dL_law_525 (by omega) (by omega) (by omega) (fun b_525 => ?_)
  refine x_i2l (pc := 526) dL_law_526 ?_
  refine x_bipush (pc := 527) dL_law_527 (by decide) ?_
  refine x_lshl (pc := 529) dL_law_529 ?_
  refine x_aload_n (pc := 530) dL_law_530 rfl ?_
  refine x_iload (pc := 531) dL_law_531 rfl ?_
  refine x_iconst (pc := 533) dL_law_533 ?_
  refine x_iadd (pc := 534) dL_law_534 ?_
  refine x_sld (pc := 535) dL_law_535 (by omega) (by omega) (by omega) (fun b_535 => ?_)
  refine x_i2l (pc := 536) dL_law_536 ?_
  refine x_ldc2 (pc := 537) dL_law_537 (4294967295) tc_RL_39 (by decide) ?_
  refine x_land (pc := 540) dL_law_540 ?_
  refine x_lor (pc := 541) dL_law_541 ?_
  rw [← hv, ← hn]
  refine x_callV2 (pc := 542) dL_law_542 (k_RL_60 _ rfl) tmv_X7_dimensional (by assumption) rfl rfl rfl ?_
  refine x_room (d' := 1) (by omega) (Nat.le_refl _) (Nat.le_refl _) (C_m_dimensional (d := 0) hM hi (fun h2 u F2 M2 e0 eu => ?_))
  dsimp only [Option.toList, List.cons_append, List.nil_append]
  refine x_lstore (pc := 545) dL_law_545 (by exact Nat.le_of_ble_eq_true rfl) ?_
  refine x_aload_n (pc := 547) dL_law_547 rfl ?_
  refine x_callV0 (pc := 548) dL_law_548 (k_RL_61 _ rfl) tmv_X7_thrown (by assumption) rfl rfl rfl ?_
  refine x_room (d' := 0) (by omega) (Nat.le_refl _) (Nat.le_refl _) (C_m_thrown (d := 0) M2.1 (fun _ => ?_))
  rw [e0, ← ht]
  dsimp only [Option.toList, List.cons_append, List.nil_append]
  refine x_iload (pc := 551) dL_law_551 rfl ?_
  refine x_icmp_eq (pc := 553) 558 dL_law_553 rfl (fun c_553 => ?_) (fun c_553 => ?_)
  · (try simp (disch := omega) only [zb_e0, zb_n0, w32_id, w64_id, ne_eq, Classical.not_not] at c_553)
    refine x_iload (pc := 558) dL_law_558 rfl ?_
    refine x_if_ne (pc := 560) 574 dL_law_560 rfl (fun c_560 => ?_) (fun c_560 => ?_)
    · (try simp (disch := omega) only [zb_e0, zb_n0, w32_id, w64_id, ne_eq, Classical.not_not] at c_560)
      refine x_goto (pc := 574) 640 dL_law_574 rfl ?_
      exact x_loc _ (by exact ⟨rfl, rfl, rfl, rfl, rfl, trivial⟩) (kk _ _ _ _ (I.step (fun q y z => z) (Nat.le_refl _) hZ F2 M2 hbb))
    · (try simp (disch := omega) only [zb_e0, zb_n0, w32_id, w64_id, ne_eq, Classical.not_not] at c_560)
      refine x_aload_n (pc := 563) dL_law_563 rfl ?_
      refine x_iconst (pc := 564) dL_law_564 ?_
      refine x_lald (pc := 565) dL_law_565 (by assumption) (by omega) (by omega) (fun b_565 => ?_)
      refine x_lload (pc := 566) dL_law_566 rfl ?_
      refine x_lcmp_eq (pc := 568) 574 dL_law_568 dL_law_569 rfl (fun c_568 => ?_) (fun c_568 => ?_)
      · (try simp (disch := omega) only [zb_e0, zb_n0, w32_id, w64_id, ne_eq, Classical.not_not] at c_568)
        refine x_goto (pc := 574) 640 dL_law_574 rfl ?_
        exact x_loc _ (by exact ⟨rfl, rfl, rfl, rfl, rfl, trivial⟩) (kk _ _ _ _ (I.step (fun q y z => z) (Nat.le_refl _) hZ F2 M2 hbb))
      · (try simp (disch := omega) only [zb_e0, zb_n0, w32_id, w64_id, ne_eq, Classical.not_not] at c_568)
        exfalso
        have e1 : h2 out 0 = dimV v n := by rw [F2 out (by omega)]; exact hout (by omega)
        have e2 := eu (by omega)
        exact c_568 (by rw [e1, e2])
  · (try simp (disch := omega) only [zb_e0, zb_n0, w32_id, w64_id, ne_eq, Classical.not_not] at c_553)
    all_goals exact absurd trivial c_553

set_option maxHeartbeats 4000000 in
set_option maxRecDepth 100000 in
theorem law_c7 (I : LInv ty sz h x m out lo S) (hj : 6 * (j : Int) + 6 ≤ L) (hL : L ≤ 288) (kk : LNext D Q b L xs x m out lo f j) : zX D (mLaw b L xs) 18 (f + 1) (6 * f + 6) 446 [(4, iV (6 * (j : Int))), (3, rV out), (2, rV m), (1, rV x), (0, rV b)] [] ty sz h Q := by
  have hZ := I.1
  have hM := I.2.1
  have hx := hZ.1.2.1
  have hm := hM.1.2.1
  have ho := I.2.2.1
  have hO := hZ.ok
  have hbb := I.2.2.2.2
  have hl1 := I.2.2.2.1
  refine x_aload_n (pc := 446) dL_law_446 rfl ?_
  refine x_aload_n (pc := 447) dL_law_447 rfl ?_
  refine x_iload (pc := 448) dL_law_448 rfl ?_
  refine x_iconst (pc := 450) dL_law_450 ?_
  refine x_iadd (pc := 451) dL_law_451 ?_
  refine x_sld (pc := 452) dL_law_452 (by omega) (by omega) (by omega) (fun b_452 => ?_)
  refine x_i2l (pc := 453) dL_law_453 ?_
  refine x_bipush (pc := 454) dL_law_454 (by decide) ?_
  refine x_lshl (pc := 456) dL_law_456 ?_
  refine x_aload_n (pc := 457) dL_law_457 rfl ?_
  refine x_iload (pc := 458) dL_law_458 rfl ?_
  refine x_iconst (pc := 460) dL_law_460 ?_
  refine x_iadd (pc := 461) dL_law_461 ?_
  refine x_sld (pc := 462) dL_law_462 (by omega) (by omega) (by omega) (fun b_462 => ?_)
  refine x_i2l (pc := 463) dL_law_463 ?_
  refine x_ldc2 (pc := 464) dL_law_464 (4294967295) tc_RL_39 (by decide) ?_
  refine x_land (pc := 467) dL_law_467 ?_
  refine x_lor (pc := 468) dL_law_468 ?_
  refine x_aload_n (pc := 469) dL_law_469 rfl ?_
  refine x_iload (pc := 470) dL_law_470 rfl ?_
  refine x_iconst (pc := 472) dL_law_472 ?_
  refine x_iadd (pc := 473) dL_law_473 ?_
  refine x_sld (pc := 474) dL_law_474 (by omega) (by omega) (by omega) (fun b_474 => ?_)
  refine x_i2l (pc := 475) dL_law_475 ?_
  refine x_bipush (pc := 476) dL_law_476 (by decide) ?_
  refine x_lshl (pc := 478) dL_law_478 ?_
  refine x_aload_n (pc := 479) dL_law_479 rfl ?_
  refine x_iload (pc := 480) dL_law_480 rfl ?_
  refine x_iconst (pc := 482) dL_law_482 ?_
  refine x_iadd (pc := 483) dL_law_483 ?_
  refine x_sld (pc := 484) dL_law_484 (by omega) (by omega) (by omega) (fun b_484 => ?_)
  refine x_i2l (pc := 485) dL_law_485 ?_
  refine x_ldc2 (pc := 486) dL_law_486 (4294967295) tc_RL_39 (by decide) ?_
  refine x_land (pc := 489) dL_law_489 ?_
  refine x_lor (pc := 490) dL_law_490 ?_
  refine x_aload_n (pc := 491) dL_law_491 rfl ?_
  refine x_dim (d := 10) (k := f) (nn := 6 * f) hx ho.1 ho.2 ⟨zorL_rng _ _, zorL_rng _ _⟩ (Nat.le_of_ble_eq_true rfl) (fun hT => ?_) (fun hT sz' hz' => ?_)
  · exact law_c7b (I.putv _ (Nat.le_refl _)) hj hL kk hT.symm rfl rfl ⟨zorL_rng _ _, zorL_rng _ _⟩ (fun _ => by simp [zup_app])
  · exact law_c7b (I.more hz') hj hL kk hT.symm rfl rfl ⟨zorL_rng _ _, zorL_rng _ _⟩ (fun z => by omega)

set_option maxHeartbeats 4000000 in
set_option maxRecDepth 100000 in
theorem law_next (I : LInv ty sz h x m out lo S) (hj : 6 * (j : Int) + 6 ≤ L) (hL : L ≤ 288)  (kk : zX D (mLaw b L xs) 18 f (6 * f) 23 [(4, iV (6 * ((j + 1 : Nat) : Int))), (3, rV out), (2, rV m), (1, rV x), (0, rV b)] [] ty sz h Q) : zX D (mLaw b L xs) 18 f (6 * f) 640 [(4, iV (6 * (j : Int))), (3, rV out), (2, rV m), (1, rV x), (0, rV b)] [] ty sz h Q := by
  refine x_iinc (pc := 640) dL_law_640 rfl (by exact Nat.le_of_ble_eq_true rfl) ?_
  refine x_goto (pc := 643) 23 dL_law_643 rfl ?_
  exact x_loc _ (by exact ⟨by show _ = some (iV (6 * ((j + 1 : Nat) : Int))); rw [show 6 * ((j + 1 : Nat) : Int) = 6 * (j : Int) + 6 by omega]; rfl, rfl, rfl, rfl, rfl, trivial⟩) kk

set_option maxHeartbeats 4000000 in
set_option maxRecDepth 100000 in
theorem law_loop (hL : L ≤ 288) (hq : ∀ (ty : zT) (sz : Nat) (h : zH), Q (some (iV 1)) ty sz h) : ∀ (n : Nat) (j : Nat) (ty : zT) (sz : Nat) (h : zH) (S : CS), LInv ty sz h x m out lo S → j + n = 48 → zX D (mLaw b L xs) 18 n (6 * n) 23 [(4, iV (6 * (j : Int))), (3, rV out), (2, rV m), (1, rV x), (0, rV b)] [] ty sz h Q := by
  intro n
  induction n with
  | zero =>
    intro j ty sz h S I hj
    refine x_iload (pc := 23) dL_law_23 rfl ?_
    refine x_aload_n (pc := 25) dL_law_25 rfl ?_
    refine x_slen (pc := 26) (by omega) dL_law_26 ?_
    refine x_bipush (pc := 27) dL_law_27 (by decide) ?_
    refine x_isub (pc := 29) dL_law_29 ?_
    refine x_icmp_gt (pc := 30) 646 dL_law_30 rfl (fun c_30 => ?_) (fun c_30 => ?_)
    · (try simp (disch := omega) only [zb_e0, zb_n0, w32_id, w64_id, ne_eq, Classical.not_not] at c_30)
      refine x_iconst (pc := 646) dL_law_646 ?_
      refine x_retv (pc := 647) ⟨dL_law_647, Or.inr ⟨rfl, (by decide)⟩⟩ ?_
      exact hq _ _ _
    · (try simp (disch := omega) only [zb_e0, zb_n0, w32_id, w64_id, ne_eq, Classical.not_not] at c_30)
      exfalso
      omega
  | succ n ih =>
    intro j ty sz h S I hj
    refine x_room (Nat.le_refl _) (k' := n + 1) (n' := 6 * n + 6) (Nat.le_refl _) (by omega) ?_
    refine x_iload (pc := 23) dL_law_23 rfl ?_
    refine x_aload_n (pc := 25) dL_law_25 rfl ?_
    refine x_slen (pc := 26) (by omega) dL_law_26 ?_
    refine x_bipush (pc := 27) dL_law_27 (by decide) ?_
    refine x_isub (pc := 29) dL_law_29 ?_
    refine x_icmp_gt (pc := 30) 646 dL_law_30 rfl (fun c_30 => ?_) (fun c_30 => ?_)
    · (try simp (disch := omega) only [zb_e0, zb_n0, w32_id, w64_id, ne_eq, Classical.not_not] at c_30)
      refine x_iconst (pc := 646) dL_law_646 ?_
      refine x_retv (pc := 647) ⟨dL_law_647, Or.inr ⟨rfl, (by decide)⟩⟩ ?_
      exact hq _ _ _
    · (try simp (disch := omega) only [zb_e0, zb_n0, w32_id, w64_id, ne_eq, Classical.not_not] at c_30)
      refine x_aload_n (pc := 33) dL_law_33 rfl ?_
      refine x_iload (pc := 34) dL_law_34 rfl ?_
      refine x_sld (pc := 36) dL_law_36 (by omega) (by omega) (by omega) (fun b_36 => ?_)
      refine x_bipush (pc := 37) dL_law_37 (by decide) ?_
      refine x_iand (pc := 39) dL_law_39 ?_
      refine sw_L_law_40 rfl (fun t_40 => ?_) (fun t_40 => ?_) (fun t_40 => ?_) (fun t_40 => ?_) (fun t_40 => ?_) (fun t_40 => ?_) (fun t_40 => ?_) (fun t_40 => ?_) (fun t_40 => ?_) (fun t_40 => ?_) (fun t_40 => ?_) (fun t_40 => ?_)
      · (try simp (disch := omega) only [zb_e0, zb_n0, w32_id, w64_id, ne_eq, Classical.not_not] at t_40)
        exact law_c0 I (by omega) hL (fun ty' sz' h' S' I' => law_next I' (by omega) hL (ih (j + 1) ty' sz' h' S' I' (by omega)))
      · (try simp (disch := omega) only [zb_e0, zb_n0, w32_id, w64_id, ne_eq, Classical.not_not] at t_40)
        exact law_c1 I (by omega) hL (fun ty' sz' h' S' I' => law_next I' (by omega) hL (ih (j + 1) ty' sz' h' S' I' (by omega)))
      · (try simp (disch := omega) only [zb_e0, zb_n0, w32_id, w64_id, ne_eq, Classical.not_not] at t_40)
        exact law_c2 I (by omega) hL (fun ty' sz' h' S' I' => law_next I' (by omega) hL (ih (j + 1) ty' sz' h' S' I' (by omega)))
      · (try simp (disch := omega) only [zb_e0, zb_n0, w32_id, w64_id, ne_eq, Classical.not_not] at t_40)
        exact law_c3 I (by omega) hL (fun ty' sz' h' S' I' => law_next I' (by omega) hL (ih (j + 1) ty' sz' h' S' I' (by omega)))
      · (try simp (disch := omega) only [zb_e0, zb_n0, w32_id, w64_id, ne_eq, Classical.not_not] at t_40)
        exact law_c4 I (by omega) hL (fun ty' sz' h' S' I' => law_next I' (by omega) hL (ih (j + 1) ty' sz' h' S' I' (by omega)))
      · (try simp (disch := omega) only [zb_e0, zb_n0, w32_id, w64_id, ne_eq, Classical.not_not] at t_40)
        exact law_c5 I (by omega) hL (fun ty' sz' h' S' I' => law_next I' (by omega) hL (ih (j + 1) ty' sz' h' S' I' (by omega)))
      · (try simp (disch := omega) only [zb_e0, zb_n0, w32_id, w64_id, ne_eq, Classical.not_not] at t_40)
        exact law_c6 I (by omega) hL (fun ty' sz' h' S' I' => law_next I' (by omega) hL (ih (j + 1) ty' sz' h' S' I' (by omega)))
      · (try simp (disch := omega) only [zb_e0, zb_n0, w32_id, w64_id, ne_eq, Classical.not_not] at t_40)
        exact law_c7 I (by omega) hL (fun ty' sz' h' S' I' => law_next I' (by omega) hL (ih (j + 1) ty' sz' h' S' I' (by omega)))
      · (try simp (disch := omega) only [zb_e0, zb_n0, w32_id, w64_id, ne_eq, Classical.not_not] at t_40)
        exact law_c8 I (by omega) hL (fun ty' sz' h' S' I' => law_next I' (by omega) hL (ih (j + 1) ty' sz' h' S' I' (by omega)))
      · (try simp (disch := omega) only [zb_e0, zb_n0, w32_id, w64_id, ne_eq, Classical.not_not] at t_40)
        exact law_c9 I (by omega) hL (fun ty' sz' h' S' I' => law_next I' (by omega) hL (ih (j + 1) ty' sz' h' S' I' (by omega)))
      · (try simp (disch := omega) only [zb_e0, zb_n0, w32_id, w64_id, ne_eq, Classical.not_not] at t_40)
        exact law_c10 I (by omega) hL (fun ty' sz' h' S' I' => law_next I' (by omega) hL (ih (j + 1) ty' sz' h' S' I' (by omega)))
      · (try simp (disch := omega) only [zb_e0, zb_n0, w32_id, w64_id, ne_eq, Classical.not_not] at t_40)
        refine x_room (Nat.le_refl _) (k' := n) (n' := 6 * n) (by omega) (by omega) (law_next I (by omega) hL (ih (j + 1) ty sz h S I (by omega)))

end EE3

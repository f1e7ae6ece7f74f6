/-! the law: its cases (printed by wip/whole/m_l1.py) -/
set_option maxRecDepth 100000 in
set_option maxHeartbeats 4000000 in
theorem law_0 {l : Launch} {F : Nat × (Int → Int)} {iv : Mm} {i : Int} {P : Option VT → Shp → Mm → Prop} (hF0 : F.1 < 65536) (hF1 : ∀ j, -2147483648 ≤ F.2 j ∧ F.2 j < 2147483648) (hi0 : 0 ≤ i) (hi6 : i + 6 ≤ F.1) (hV : LV iv) (hK : ∀ iv2, LV iv2 → J l (yL_law).cls cL_law 4 (some FieldType.boolean) 14 78 7462 false F P 78 7462 1692 [some (r_ 1000), some (r_ 0), some (r_ 61), some (i_ i)] [] S0 iv2) : J l (yL_law).cls cL_law 4 (some FieldType.boolean) 14 78 7462 false F (P) 78 7462 244 [some (r_ 1000), some (r_ 0), some (r_ 61), some (i_ i)] [] S0 (iv) := by
  refine J.aload_n (q := 245) dL_law_244 rfl ?_ rfl
  refine J.aload_n (q := 246) dL_law_245 rfl ?_ rfl
  refine J.iload_n (q := 247) dL_law_246 rfl ?_ rfl
  refine J.iconst (q := 248) dL_law_247 ?_ rfl
  refine J.iadd (q := 249) dL_law_248 ?_ rfl
  refine J.sld (q := 250) dL_law_249 (by omega) hF0 ?_ rfl
  refine J.aload_n (q := 251) dL_law_250 rfl ?_ rfl
  refine J.iload_n (q := 252) dL_law_251 rfl ?_ rfl
  refine J.iconst (q := 253) dL_law_252 ?_ rfl
  refine J.iadd (q := 254) dL_law_253 ?_ rfl
  refine J.sld (q := 255) dL_law_254 (by omega) hF0 ?_ rfl
  refine J.callV2 (ci := 5) (q := 258) dL_law_255 mv_X5_hedge kL_L_13 rfl (by decide) rfl ⟨by decide, by decide⟩ (Nat.le_of_ble_eq_true rfl) ⟨by decide, by decide⟩ rfl (c_X5_hedge hV.1 hV.2.1 (hF1 _) (hF1 _)) (fun v9 S9 iv9 hp => ?_)
  obtain ⟨rfl, rfl, b1, hC9⟩ := hp
  have hE := hi_eq b1
  have hA9 : AI iv9 := by
    have h := hV.2.1
    rw [← hE] at h
    exact h
  refine J.aload_n (q := 259) dL_law_258 rfl ?_ rfl
  refine J.aload_n (q := 260) dL_law_259 rfl ?_ rfl
  refine J.iload_n (q := 261) dL_law_260 rfl ?_ rfl
  refine J.iconst (q := 262) dL_law_261 ?_ rfl
  refine J.iadd (q := 263) dL_law_262 ?_ rfl
  refine J.sld (q := 264) dL_law_263 (by omega) hF0 ?_ rfl
  refine J.aload_n (q := 265) dL_law_264 rfl ?_ rfl
  refine J.iload_n (q := 266) dL_law_265 rfl ?_ rfl
  refine J.iconst (q := 267) dL_law_266 ?_ rfl
  refine J.iadd (q := 268) dL_law_267 ?_ rfl
  refine J.sld (q := 269) dL_law_268 (by omega) hF0 ?_ rfl
  refine J.callV2 (ci := 6) (q := 272) dL_law_269 mv_X6_hedge kL_L_17 rfl (by decide) rfl ⟨by decide, by decide⟩ (Nat.le_of_ble_eq_true rfl) ⟨by decide, by decide⟩ rfl (c_X6_hedge (D := 99999) (by decide) hA9.mi (hF1 _) (hF1 _)) (fun v8 S8 iv8 hp => ?_)
  rw [hE] at hp
  obtain ⟨rfl, rfl, b2, hL9⟩ := hp
  refine J.icmp_eq_same (tgt := 1692) (q := 275) dL_law_272 rfl rfl ?_
  exact hK iv8 (hV.go b1 hC9 b2 hL9 (ai_hedge hV.2.1))

set_option maxRecDepth 100000 in
set_option maxHeartbeats 4000000 in
theorem law_1 {l : Launch} {F : Nat × (Int → Int)} {iv : Mm} {i : Int} {P : Option VT → Shp → Mm → Prop} (hF0 : F.1 < 65536) (hF1 : ∀ j, -2147483648 ≤ F.2 j ∧ F.2 j < 2147483648) (hi0 : 0 ≤ i) (hi6 : i + 6 ≤ F.1) (hV : LV iv) (hK : ∀ iv2, LV iv2 → J l (yL_law).cls cL_law 4 (some FieldType.boolean) 14 78 7462 false F P 78 7462 1692 [some (r_ 1000), some (r_ 0), some (r_ 61), some (i_ i)] [] S0 iv2) : J l (yL_law).cls cL_law 4 (some FieldType.boolean) 14 78 7462 false F (P) 78 7462 277 [some (r_ 1000), some (r_ 0), some (r_ 61), some (i_ i)] [] S0 (iv) := by
  refine J.aload_n (q := 278) dL_law_277 rfl ?_ rfl
  refine J.aload_n (q := 279) dL_law_278 rfl ?_ rfl
  refine J.iload_n (q := 280) dL_law_279 rfl ?_ rfl
  refine J.iconst (q := 281) dL_law_280 ?_ rfl
  refine J.iadd (q := 282) dL_law_281 ?_ rfl
  refine J.sld (q := 283) dL_law_282 (by omega) hF0 ?_ rfl
  refine J.aload_n (q := 284) dL_law_283 rfl ?_ rfl
  refine J.iload_n (q := 285) dL_law_284 rfl ?_ rfl
  refine J.iconst (q := 286) dL_law_285 ?_ rfl
  refine J.iadd (q := 287) dL_law_286 ?_ rfl
  refine J.sld (q := 288) dL_law_287 (by omega) hF0 ?_ rfl
  refine J.callV2 (ci := 5) (q := 291) dL_law_288 mv_X5_greens kL_L_18 rfl (by decide) rfl ⟨by decide, by decide⟩ (Nat.le_of_ble_eq_true rfl) ⟨by decide, by decide⟩ rfl (c_X5_greens hV.1 hV.2.1 (hF1 _) (hF1 _)) (fun v9 S9 iv9 hp => ?_)
  obtain ⟨rfl, rfl, b1, hC9⟩ := hp
  have hE := hi_eq b1
  have hA9 : AI iv9 := by
    have h := hV.2.1
    rw [← hE] at h
    exact h
  refine J.aload_n (q := 292) dL_law_291 rfl ?_ rfl
  refine J.aload_n (q := 293) dL_law_292 rfl ?_ rfl
  refine J.iload_n (q := 294) dL_law_293 rfl ?_ rfl
  refine J.iconst (q := 295) dL_law_294 ?_ rfl
  refine J.iadd (q := 296) dL_law_295 ?_ rfl
  refine J.sld (q := 297) dL_law_296 (by omega) hF0 ?_ rfl
  refine J.aload_n (q := 298) dL_law_297 rfl ?_ rfl
  refine J.iload_n (q := 299) dL_law_298 rfl ?_ rfl
  refine J.iconst (q := 300) dL_law_299 ?_ rfl
  refine J.iadd (q := 301) dL_law_300 ?_ rfl
  refine J.sld (q := 302) dL_law_301 (by omega) hF0 ?_ rfl
  refine J.callV2 (ci := 6) (q := 305) dL_law_302 mv_X6_greens kL_L_21 rfl (by decide) rfl ⟨by decide, by decide⟩ (Nat.le_of_ble_eq_true rfl) ⟨by decide, by decide⟩ rfl (c_X6_greens (D := 99999) (by decide) hA9.mi (hF1 _) (hF1 _)) (fun v8 S8 iv8 hp => ?_)
  rw [hE] at hp
  obtain ⟨rfl, rfl, b2, hL9⟩ := hp
  refine J.icmp_eq_same (tgt := 1692) (q := 308) dL_law_305 rfl rfl ?_
  exact hK iv8 (hV.go b1 hC9 b2 hL9 (ai_greens hV.2.1))

theorem ai_land {A : Mm} (hA : AI A) {a0 a1 : Int} : AI (an_land A a0 a1).2 := by
  unfold an_land
  repeat' split
  all_goals exact hA
set_option maxRecDepth 100000 in
set_option maxHeartbeats 4000000 in
theorem law_2 {l : Launch} {F : Nat × (Int → Int)} {iv : Mm} {i : Int} {P : Option VT → Shp → Mm → Prop} (hF0 : F.1 < 65536) (hF1 : ∀ j, -2147483648 ≤ F.2 j ∧ F.2 j < 2147483648) (hi0 : 0 ≤ i) (hi6 : i + 6 ≤ F.1) (hV : LV iv) (hK : ∀ iv2, LV iv2 → J l (yL_law).cls cL_law 4 (some FieldType.boolean) 14 78 7462 false F P 78 7462 1692 [some (r_ 1000), some (r_ 0), some (r_ 61), some (i_ i)] [] S0 iv2) : J l (yL_law).cls cL_law 4 (some FieldType.boolean) 14 78 7462 false F (P) 78 7462 310 [some (r_ 1000), some (r_ 0), some (r_ 61), some (i_ i)] [] S0 (iv) := by
  refine J.aload_n (q := 311) dL_law_310 rfl ?_ rfl
  refine J.aload_n (q := 312) dL_law_311 rfl ?_ rfl
  refine J.iload_n (q := 313) dL_law_312 rfl ?_ rfl
  refine J.iconst (q := 314) dL_law_313 ?_ rfl
  refine J.iadd (q := 315) dL_law_314 ?_ rfl
  refine J.sld (q := 316) dL_law_315 (by omega) hF0 ?_ rfl
  refine J.aload_n (q := 317) dL_law_316 rfl ?_ rfl
  refine J.iload_n (q := 318) dL_law_317 rfl ?_ rfl
  refine J.iconst (q := 319) dL_law_318 ?_ rfl
  refine J.iadd (q := 320) dL_law_319 ?_ rfl
  refine J.sld (q := 321) dL_law_320 (by omega) hF0 ?_ rfl
  refine J.callV2 (ci := 5) (q := 324) dL_law_321 mv_X5_land kL_L_22 rfl (by decide) rfl ⟨by decide, by decide⟩ (Nat.le_of_ble_eq_true rfl) ⟨by decide, by decide⟩ rfl (c_X5_land hV.1 hV.2.1 (hF1 _) (hF1 _)) (fun v9 S9 iv9 hp => ?_)
  obtain ⟨rfl, rfl, b1, hC9⟩ := hp
  have hE := hi_eq b1
  have hA9 : AI iv9 := by
    have h := hV.2.1
    rw [← hE] at h
    exact h
  refine J.aload_n (q := 325) dL_law_324 rfl ?_ rfl
  refine J.aload_n (q := 326) dL_law_325 rfl ?_ rfl
  refine J.iload_n (q := 327) dL_law_326 rfl ?_ rfl
  refine J.iconst (q := 328) dL_law_327 ?_ rfl
  refine J.iadd (q := 329) dL_law_328 ?_ rfl
  refine J.sld (q := 330) dL_law_329 (by omega) hF0 ?_ rfl
  refine J.aload_n (q := 331) dL_law_330 rfl ?_ rfl
  refine J.iload_n (q := 332) dL_law_331 rfl ?_ rfl
  refine J.iconst (q := 333) dL_law_332 ?_ rfl
  refine J.iadd (q := 334) dL_law_333 ?_ rfl
  refine J.sld (q := 335) dL_law_334 (by omega) hF0 ?_ rfl
  refine J.callV2 (ci := 6) (q := 338) dL_law_335 mv_X6_land kL_L_25 rfl (by decide) rfl ⟨by decide, by decide⟩ (Nat.le_of_ble_eq_true rfl) ⟨by decide, by decide⟩ rfl (c_X6_land (D := 99999) (by decide) hA9.mi (hF1 _) (hF1 _)) (fun v8 S8 iv8 hp => ?_)
  rw [hE] at hp
  obtain ⟨rfl, rfl, b2, hL9⟩ := hp
  refine J.icmp_eq_same (tgt := 1692) (q := 341) dL_law_338 rfl rfl ?_
  exact hK iv8 (hV.go b1 hC9 b2 hL9 (ai_land hV.2.1))

theorem ai_far {A : Mm} (hA : AI A) {a0 a1 : Int} : AI (an_far A a0 a1).2 := by
  unfold an_far
  repeat' split
  all_goals exact hA
set_option maxRecDepth 100000 in
set_option maxHeartbeats 4000000 in
theorem law_3 {l : Launch} {F : Nat × (Int → Int)} {iv : Mm} {i : Int} {P : Option VT → Shp → Mm → Prop} (hF0 : F.1 < 65536) (hF1 : ∀ j, -2147483648 ≤ F.2 j ∧ F.2 j < 2147483648) (hi0 : 0 ≤ i) (hi6 : i + 6 ≤ F.1) (hV : LV iv) (hK : ∀ iv2, LV iv2 → J l (yL_law).cls cL_law 4 (some FieldType.boolean) 14 78 7462 false F P 78 7462 1692 [some (r_ 1000), some (r_ 0), some (r_ 61), some (i_ i)] [] S0 iv2) : J l (yL_law).cls cL_law 4 (some FieldType.boolean) 14 78 7462 false F (P) 78 7462 343 [some (r_ 1000), some (r_ 0), some (r_ 61), some (i_ i)] [] S0 (iv) := by
  refine J.aload_n (q := 344) dL_law_343 rfl ?_ rfl
  refine J.aload_n (q := 345) dL_law_344 rfl ?_ rfl
  refine J.iload_n (q := 346) dL_law_345 rfl ?_ rfl
  refine J.iconst (q := 347) dL_law_346 ?_ rfl
  refine J.iadd (q := 348) dL_law_347 ?_ rfl
  refine J.sld (q := 349) dL_law_348 (by omega) hF0 ?_ rfl
  refine J.aload_n (q := 350) dL_law_349 rfl ?_ rfl
  refine J.iload_n (q := 351) dL_law_350 rfl ?_ rfl
  refine J.iconst (q := 352) dL_law_351 ?_ rfl
  refine J.iadd (q := 353) dL_law_352 ?_ rfl
  refine J.sld (q := 354) dL_law_353 (by omega) hF0 ?_ rfl
  refine J.callV2 (ci := 5) (q := 357) dL_law_354 mv_X5_far kL_L_26 rfl (by decide) rfl ⟨by decide, by decide⟩ (Nat.le_of_ble_eq_true rfl) ⟨by decide, by decide⟩ rfl (c_X5_far hV.1 hV.2.1 (hF1 _) (hF1 _)) (fun v9 S9 iv9 hp => ?_)
  obtain ⟨rfl, rfl, b1, hC9⟩ := hp
  have hE := hi_eq b1
  have hA9 : AI iv9 := by
    have h := hV.2.1
    rw [← hE] at h
    exact h
  refine J.aload_n (q := 358) dL_law_357 rfl ?_ rfl
  refine J.aload_n (q := 359) dL_law_358 rfl ?_ rfl
  refine J.iload_n (q := 360) dL_law_359 rfl ?_ rfl
  refine J.iconst (q := 361) dL_law_360 ?_ rfl
  refine J.iadd (q := 362) dL_law_361 ?_ rfl
  refine J.sld (q := 363) dL_law_362 (by omega) hF0 ?_ rfl
  refine J.aload_n (q := 364) dL_law_363 rfl ?_ rfl
  refine J.iload_n (q := 365) dL_law_364 rfl ?_ rfl
  refine J.iconst (q := 366) dL_law_365 ?_ rfl
  refine J.iadd (q := 367) dL_law_366 ?_ rfl
  refine J.sld (q := 368) dL_law_367 (by omega) hF0 ?_ rfl
  refine J.callV2 (ci := 6) (q := 371) dL_law_368 mv_X6_far kL_L_29 rfl (by decide) rfl ⟨by decide, by decide⟩ (Nat.le_of_ble_eq_true rfl) ⟨by decide, by decide⟩ rfl (c_X6_far hA9 (hF1 _) (hF1 _)) (fun v8 S8 iv8 hp => ?_)
  rw [hE] at hp
  obtain ⟨rfl, rfl, b2, hL9⟩ := hp
  refine J.icmp_eq_same (tgt := 1692) (q := 374) dL_law_371 rfl rfl ?_
  exact hK iv8 (hV.go b1 hC9 b2 hL9 (ai_far hV.2.1))

set_option maxRecDepth 100000 in
set_option maxHeartbeats 4000000 in
theorem law_4 {l : Launch} {F : Nat × (Int → Int)} {iv : Mm} {i : Int} {P : Option VT → Shp → Mm → Prop} (hF0 : F.1 < 65536) (hF1 : ∀ j, -2147483648 ≤ F.2 j ∧ F.2 j < 2147483648) (hi0 : 0 ≤ i) (hi6 : i + 6 ≤ F.1) (hV : LV iv) (hK : ∀ iv2, LV iv2 → J l (yL_law).cls cL_law 4 (some FieldType.boolean) 14 78 7462 false F P 78 7462 1692 [some (r_ 1000), some (r_ 0), some (r_ 61), some (i_ i)] [] S0 iv2) : J l (yL_law).cls cL_law 4 (some FieldType.boolean) 14 78 7462 false F (P) 78 7462 376 [some (r_ 1000), some (r_ 0), some (r_ 61), some (i_ i)] [] S0 (iv) := by
  refine J.aload_n (q := 377) dL_law_376 rfl ?_ rfl
  refine J.aload_n (q := 378) dL_law_377 rfl ?_ rfl
  refine J.iload_n (q := 379) dL_law_378 rfl ?_ rfl
  refine J.iconst (q := 380) dL_law_379 ?_ rfl
  refine J.iadd (q := 381) dL_law_380 ?_ rfl
  refine J.sld (q := 382) dL_law_381 (by omega) hF0 ?_ rfl
  refine J.aload_n (q := 383) dL_law_382 rfl ?_ rfl
  refine J.iload_n (q := 384) dL_law_383 rfl ?_ rfl
  refine J.iconst (q := 385) dL_law_384 ?_ rfl
  refine J.iadd (q := 386) dL_law_385 ?_ rfl
  refine J.sld (q := 387) dL_law_386 (by omega) hF0 ?_ rfl
  refine J.callV2 (ci := 5) (q := 390) dL_law_387 mv_X5_snail kL_L_30 rfl (by decide) rfl ⟨by decide, by decide⟩ (Nat.le_of_ble_eq_true rfl) ⟨by decide, by decide⟩ rfl (c_X5_snail hV.1 hV.2.1 (hF1 _) (hF1 _)) (fun v9 S9 iv9 hp => ?_)
  obtain ⟨rfl, rfl, b1, hC9⟩ := hp
  have hE := hi_eq b1
  have hA9 : AI iv9 := by
    have h := hV.2.1
    rw [← hE] at h
    exact h
  refine J.aload_n (q := 391) dL_law_390 rfl ?_ rfl
  refine J.aload_n (q := 392) dL_law_391 rfl ?_ rfl
  refine J.iload_n (q := 393) dL_law_392 rfl ?_ rfl
  refine J.iconst (q := 394) dL_law_393 ?_ rfl
  refine J.iadd (q := 395) dL_law_394 ?_ rfl
  refine J.sld (q := 396) dL_law_395 (by omega) hF0 ?_ rfl
  refine J.aload_n (q := 397) dL_law_396 rfl ?_ rfl
  refine J.iload_n (q := 398) dL_law_397 rfl ?_ rfl
  refine J.iconst (q := 399) dL_law_398 ?_ rfl
  refine J.iadd (q := 400) dL_law_399 ?_ rfl
  refine J.sld (q := 401) dL_law_400 (by omega) hF0 ?_ rfl
  refine J.callV2 (ci := 6) (q := 404) dL_law_401 mv_X6_snail kL_L_33 rfl (by decide) rfl ⟨by decide, by decide⟩ (Nat.le_of_ble_eq_true rfl) ⟨by decide, by decide⟩ rfl (c_X6_snail (D := 99999) (by decide) hA9.mi (hF1 _) (hF1 _)) (fun v8 S8 iv8 hp => ?_)
  rw [hE] at hp
  obtain ⟨rfl, rfl, b2, hL9⟩ := hp
  refine J.icmp_eq_same (tgt := 1692) (q := 407) dL_law_404 rfl rfl ?_
  exact hK iv8 (hV.go b1 hC9 b2 hL9 (ai_snail hV.2.1))

theorem ai_of {A : Mm} (hA : AI A) {a0 a1 : Int} : AI (an_of A a0 a1).2 := by
  unfold an_of
  repeat' split
  all_goals exact hA
set_option maxRecDepth 100000 in
set_option maxHeartbeats 4000000 in
theorem law_5 {l : Launch} {F : Nat × (Int → Int)} {iv : Mm} {i : Int} {P : Option VT → Shp → Mm → Prop} (hF0 : F.1 < 65536) (hF1 : ∀ j, -2147483648 ≤ F.2 j ∧ F.2 j < 2147483648) (hi0 : 0 ≤ i) (hi6 : i + 6 ≤ F.1) (hV : LV iv) (hK : ∀ iv2, LV iv2 → J l (yL_law).cls cL_law 4 (some FieldType.boolean) 14 78 7462 false F P 78 7462 1692 [some (r_ 1000), some (r_ 0), some (r_ 61), some (i_ i)] [] S0 iv2) : J l (yL_law).cls cL_law 4 (some FieldType.boolean) 14 78 7462 false F (P) 78 7462 409 [some (r_ 1000), some (r_ 0), some (r_ 61), some (i_ i)] [] S0 (iv) := by
  refine J.aload_n (q := 410) dL_law_409 rfl ?_ rfl
  refine J.aload_n (q := 411) dL_law_410 rfl ?_ rfl
  refine J.iload_n (q := 412) dL_law_411 rfl ?_ rfl
  refine J.iconst (q := 413) dL_law_412 ?_ rfl
  refine J.iadd (q := 414) dL_law_413 ?_ rfl
  refine J.sld (q := 415) dL_law_414 (by omega) hF0 ?_ rfl
  refine J.aload_n (q := 416) dL_law_415 rfl ?_ rfl
  refine J.iload_n (q := 417) dL_law_416 rfl ?_ rfl
  refine J.iconst (q := 418) dL_law_417 ?_ rfl
  refine J.iadd (q := 419) dL_law_418 ?_ rfl
  refine J.sld (q := 420) dL_law_419 (by omega) hF0 ?_ rfl
  refine J.callV2 (ci := 5) (q := 423) dL_law_420 mv_X5_of kL_L_34 rfl (by decide) rfl ⟨by decide, by decide⟩ (Nat.le_of_ble_eq_true rfl) ⟨by decide, by decide⟩ rfl (c_X5_of hV.1 hV.2.1 (hF1 _) (hF1 _)) (fun v9 S9 iv9 hp => ?_)
  obtain ⟨rfl, rfl, b1, hC9⟩ := hp
  have hE := hi_eq b1
  have hA9 : AI iv9 := by
    have h := hV.2.1
    rw [← hE] at h
    exact h
  refine J.aload_n (q := 424) dL_law_423 rfl ?_ rfl
  refine J.aload_n (q := 425) dL_law_424 rfl ?_ rfl
  refine J.iload_n (q := 426) dL_law_425 rfl ?_ rfl
  refine J.iconst (q := 427) dL_law_426 ?_ rfl
  refine J.iadd (q := 428) dL_law_427 ?_ rfl
  refine J.sld (q := 429) dL_law_428 (by omega) hF0 ?_ rfl
  refine J.aload_n (q := 430) dL_law_429 rfl ?_ rfl
  refine J.iload_n (q := 431) dL_law_430 rfl ?_ rfl
  refine J.iconst (q := 432) dL_law_431 ?_ rfl
  refine J.iadd (q := 433) dL_law_432 ?_ rfl
  refine J.sld (q := 434) dL_law_433 (by omega) hF0 ?_ rfl
  refine J.callV2 (ci := 6) (q := 437) dL_law_434 mv_X6_of kL_L_37 rfl (by decide) rfl ⟨by decide, by decide⟩ (Nat.le_of_ble_eq_true rfl) ⟨by decide, by decide⟩ rfl (c_X6_of (D := 99999) (by decide) hA9.mi (hF1 _) (hF1 _)) (fun v8 S8 iv8 hp => ?_)
  rw [hE] at hp
  obtain ⟨rfl, rfl, b2, hL9⟩ := hp
  refine J.icmp_eq_same (tgt := 1692) (q := 440) dL_law_437 rfl rfl ?_
  exact hK iv8 (hV.go b1 hC9 b2 hL9 (ai_of hV.2.1))

set_option maxRecDepth 100000 in
set_option maxHeartbeats 4000000 in
theorem law_6 {l : Launch} {F : Nat × (Int → Int)} {iv : Mm} {i : Int} {P : Option VT → Shp → Mm → Prop} (hF0 : F.1 < 65536) (hF1 : ∀ j, -2147483648 ≤ F.2 j ∧ F.2 j < 2147483648) (hi0 : 0 ≤ i) (hi6 : i + 6 ≤ F.1) (hV : LV iv) (hK : ∀ iv2, LV iv2 → J l (yL_law).cls cL_law 4 (some FieldType.boolean) 14 78 7462 false F P 78 7462 1692 [some (r_ 1000), some (r_ 0), some (r_ 61), some (i_ i)] [] S0 iv2) : J l (yL_law).cls cL_law 4 (some FieldType.boolean) 14 78 7462 false F (P) 78 7462 442 [some (r_ 1000), some (r_ 0), some (r_ 61), some (i_ i)] [] S0 (iv) := by
  refine J.aload_n (q := 443) dL_law_442 rfl ?_ rfl
  refine J.aload_n (q := 444) dL_law_443 rfl ?_ rfl
  refine J.iload_n (q := 445) dL_law_444 rfl ?_ rfl
  refine J.iconst (q := 446) dL_law_445 ?_ rfl
  refine J.iadd (q := 447) dL_law_446 ?_ rfl
  refine J.sld (q := 448) dL_law_447 (by omega) hF0 ?_ rfl
  refine J.aload_n (q := 449) dL_law_448 rfl ?_ rfl
  refine J.iload_n (q := 450) dL_law_449 rfl ?_ rfl
  refine J.iconst (q := 451) dL_law_450 ?_ rfl
  refine J.iadd (q := 452) dL_law_451 ?_ rfl
  refine J.sld (q := 453) dL_law_452 (by omega) hF0 ?_ rfl
  refine J.aload_n (q := 454) dL_law_453 rfl ?_ rfl
  refine J.iload_n (q := 455) dL_law_454 rfl ?_ rfl
  refine J.iconst (q := 456) dL_law_455 ?_ rfl
  refine J.iadd (q := 457) dL_law_456 ?_ rfl
  refine J.sld (q := 458) dL_law_457 (by omega) hF0 ?_ rfl
  refine J.callV3 (ci := 5) (q := 461) dL_law_458 mv_X5_change kL_L_38 rfl (by decide) rfl ⟨by decide, by decide⟩ (Nat.le_of_ble_eq_true rfl) ⟨by decide, by decide⟩ rfl (c_X5_change hV.1 hV.2.1 (hF1 _) (hF1 _) (hF1 _)) (fun v9 S9 iv9 hp => ?_)
  obtain ⟨rfl, rfl, b1, hC9⟩ := hp
  have hE := hi_eq b1
  have hA9 : AI iv9 := by
    have h := hV.2.1
    rw [← hE] at h
    exact h
  refine J.aload_n (q := 462) dL_law_461 rfl ?_ rfl
  refine J.aload_n (q := 463) dL_law_462 rfl ?_ rfl
  refine J.iload_n (q := 464) dL_law_463 rfl ?_ rfl
  refine J.iconst (q := 465) dL_law_464 ?_ rfl
  refine J.iadd (q := 466) dL_law_465 ?_ rfl
  refine J.sld (q := 467) dL_law_466 (by omega) hF0 ?_ rfl
  refine J.aload_n (q := 468) dL_law_467 rfl ?_ rfl
  refine J.iload_n (q := 469) dL_law_468 rfl ?_ rfl
  refine J.iconst (q := 470) dL_law_469 ?_ rfl
  refine J.iadd (q := 471) dL_law_470 ?_ rfl
  refine J.sld (q := 472) dL_law_471 (by omega) hF0 ?_ rfl
  refine J.aload_n (q := 473) dL_law_472 rfl ?_ rfl
  refine J.iload_n (q := 474) dL_law_473 rfl ?_ rfl
  refine J.iconst (q := 475) dL_law_474 ?_ rfl
  refine J.iadd (q := 476) dL_law_475 ?_ rfl
  refine J.sld (q := 477) dL_law_476 (by omega) hF0 ?_ rfl
  refine J.callV3 (ci := 6) (q := 480) dL_law_477 mv_X6_change kL_L_42 rfl (by decide) rfl ⟨by decide, by decide⟩ (Nat.le_of_ble_eq_true rfl) ⟨by decide, by decide⟩ rfl (c_X6_change (D := 99999) (by decide) hA9.mi (hF1 _) (hF1 _) (hF1 _)) (fun v8 S8 iv8 hp => ?_)
  rw [hE] at hp
  obtain ⟨rfl, rfl, b2, hL9⟩ := hp
  refine J.icmp_eq_same (tgt := 1692) (q := 483) dL_law_480 rfl rfl ?_
  exact hK iv8 (hV.go b1 hC9 b2 hL9 (ai_change hV.2.1))

set_option maxRecDepth 100000 in
set_option maxHeartbeats 4000000 in
theorem law_7 {l : Launch} {F : Nat × (Int → Int)} {iv : Mm} {i : Int} {P : Option VT → Shp → Mm → Prop} (hF0 : F.1 < 65536) (hF1 : ∀ j, -2147483648 ≤ F.2 j ∧ F.2 j < 2147483648) (hi0 : 0 ≤ i) (hi6 : i + 6 ≤ F.1) (hV : LV iv) (hK : ∀ iv2, LV iv2 → J l (yL_law).cls cL_law 4 (some FieldType.boolean) 14 78 7462 false F P 78 7462 1692 [some (r_ 1000), some (r_ 0), some (r_ 61), some (i_ i)] [] S0 iv2) : J l (yL_law).cls cL_law 4 (some FieldType.boolean) 14 78 7462 false F (P) 78 7462 485 [some (r_ 1000), some (r_ 0), some (r_ 61), some (i_ i)] [] S0 (iv) := by
  refine J.aload_n (q := 486) dL_law_485 rfl ?_ rfl
  refine J.aload_n (q := 487) dL_law_486 rfl ?_ rfl
  refine J.iload_n (q := 488) dL_law_487 rfl ?_ rfl
  refine J.iconst (q := 489) dL_law_488 ?_ rfl
  refine J.iadd (q := 490) dL_law_489 ?_ rfl
  refine J.sld (q := 491) dL_law_490 (by omega) hF0 ?_ rfl
  refine J.aload_n (q := 492) dL_law_491 rfl ?_ rfl
  refine J.iload_n (q := 493) dL_law_492 rfl ?_ rfl
  refine J.iconst (q := 494) dL_law_493 ?_ rfl
  refine J.iadd (q := 495) dL_law_494 ?_ rfl
  refine J.sld (q := 496) dL_law_495 (by omega) hF0 ?_ rfl
  refine J.callV2 (ci := 5) (q := 499) dL_law_496 mv_X5_bans kL_L_43 rfl (by decide) rfl ⟨by decide, by decide⟩ (Nat.le_of_ble_eq_true rfl) ⟨by decide, by decide⟩ rfl (c_X5_bans hV.1 hV.2.1 (hF1 _) (hF1 _)) (fun v9 S9 iv9 hp => ?_)
  obtain ⟨rfl, rfl, b1, hC9⟩ := hp
  have hE := hi_eq b1
  have hA9 : AI iv9 := by
    have h := hV.2.1
    rw [← hE] at h
    exact h
  refine J.aload_n (q := 500) dL_law_499 rfl ?_ rfl
  refine J.aload_n (q := 501) dL_law_500 rfl ?_ rfl
  refine J.iload_n (q := 502) dL_law_501 rfl ?_ rfl
  refine J.iconst (q := 503) dL_law_502 ?_ rfl
  refine J.iadd (q := 504) dL_law_503 ?_ rfl
  refine J.sld (q := 505) dL_law_504 (by omega) hF0 ?_ rfl
  refine J.aload_n (q := 506) dL_law_505 rfl ?_ rfl
  refine J.iload_n (q := 507) dL_law_506 rfl ?_ rfl
  refine J.iconst (q := 508) dL_law_507 ?_ rfl
  refine J.iadd (q := 509) dL_law_508 ?_ rfl
  refine J.sld (q := 510) dL_law_509 (by omega) hF0 ?_ rfl
  refine J.callV2 (ci := 6) (q := 513) dL_law_510 mv_X6_bans kL_L_46 rfl (by decide) rfl ⟨by decide, by decide⟩ (Nat.le_of_ble_eq_true rfl) ⟨by decide, by decide⟩ rfl (c_X6_bans (D := 99999) (by decide) hA9.mi (hF1 _) (hF1 _)) (fun v8 S8 iv8 hp => ?_)
  rw [hE] at hp
  obtain ⟨rfl, rfl, b2, hL9⟩ := hp
  refine J.icmp_eq_same (tgt := 1692) (q := 516) dL_law_513 rfl rfl ?_
  exact hK iv8 (hV.go b1 hC9 b2 hL9 (ai_bans hV.2.1))

set_option maxRecDepth 100000 in
set_option maxHeartbeats 4000000 in
theorem law_8 {l : Launch} {F : Nat × (Int → Int)} {iv : Mm} {i : Int} {P : Option VT → Shp → Mm → Prop} (hF0 : F.1 < 65536) (hF1 : ∀ j, -2147483648 ≤ F.2 j ∧ F.2 j < 2147483648) (hi0 : 0 ≤ i) (hi6 : i + 6 ≤ F.1) (hV : LV iv) (hK : ∀ iv2, LV iv2 → J l (yL_law).cls cL_law 4 (some FieldType.boolean) 14 78 7462 false F P 78 7462 1692 [some (r_ 1000), some (r_ 0), some (r_ 61), some (i_ i)] [] S0 iv2) : J l (yL_law).cls cL_law 4 (some FieldType.boolean) 14 78 7462 false F (P) 78 7462 518 [some (r_ 1000), some (r_ 0), some (r_ 61), some (i_ i)] [] S0 (iv) := by
  refine J.aload_n (q := 519) dL_law_518 rfl ?_ rfl
  refine J.aload_n (q := 520) dL_law_519 rfl ?_ rfl
  refine J.iload_n (q := 521) dL_law_520 rfl ?_ rfl
  refine J.iconst (q := 522) dL_law_521 ?_ rfl
  refine J.iadd (q := 523) dL_law_522 ?_ rfl
  refine J.sld (q := 524) dL_law_523 (by omega) hF0 ?_ rfl
  refine J.aload_n (q := 525) dL_law_524 rfl ?_ rfl
  refine J.iload_n (q := 526) dL_law_525 rfl ?_ rfl
  refine J.iconst (q := 527) dL_law_526 ?_ rfl
  refine J.iadd (q := 528) dL_law_527 ?_ rfl
  refine J.sld (q := 529) dL_law_528 (by omega) hF0 ?_ rfl
  refine J.callV2 (ci := 5) (q := 532) dL_law_529 mv_X5_set kL_L_47 rfl (by decide) rfl ⟨by decide, by decide⟩ (Nat.le_of_ble_eq_true rfl) ⟨by decide, by decide⟩ rfl (c_X5_set hV.1 hV.2.1 (hF1 _) (hF1 _)) (fun v9 S9 iv9 hp => ?_)
  obtain ⟨rfl, rfl, b1, hC9⟩ := hp
  have hE := hi_eq b1
  have hA9 : AI iv9 := by
    have h := hV.2.1
    rw [← hE] at h
    exact h
  refine J.aload_n (q := 533) dL_law_532 rfl ?_ rfl
  refine J.aload_n (q := 534) dL_law_533 rfl ?_ rfl
  refine J.iload_n (q := 535) dL_law_534 rfl ?_ rfl
  refine J.iconst (q := 536) dL_law_535 ?_ rfl
  refine J.iadd (q := 537) dL_law_536 ?_ rfl
  refine J.sld (q := 538) dL_law_537 (by omega) hF0 ?_ rfl
  refine J.aload_n (q := 539) dL_law_538 rfl ?_ rfl
  refine J.iload_n (q := 540) dL_law_539 rfl ?_ rfl
  refine J.iconst (q := 541) dL_law_540 ?_ rfl
  refine J.iadd (q := 542) dL_law_541 ?_ rfl
  refine J.sld (q := 543) dL_law_542 (by omega) hF0 ?_ rfl
  refine J.callV2 (ci := 6) (q := 546) dL_law_543 mv_X6_set kL_L_50 rfl (by decide) rfl ⟨by decide, by decide⟩ (Nat.le_of_ble_eq_true rfl) ⟨by decide, by decide⟩ rfl (c_X6_set (D := 99999) (by decide) hA9.mi (hF1 _) (hF1 _)) (fun v8 S8 iv8 hp => ?_)
  rw [hE] at hp
  obtain ⟨rfl, rfl, b2, hL9⟩ := hp
  refine J.icmp_eq_same (tgt := 1692) (q := 549) dL_law_546 rfl rfl ?_
  exact hK iv8 (hV.go b1 hC9 b2 hL9 (ai_set hV.2.1))

set_option maxRecDepth 100000 in
set_option maxHeartbeats 4000000 in
theorem law_9 {l : Launch} {F : Nat × (Int → Int)} {iv : Mm} {i : Int} {P : Option VT → Shp → Mm → Prop} (hF0 : F.1 < 65536) (hF1 : ∀ j, -2147483648 ≤ F.2 j ∧ F.2 j < 2147483648) (hi0 : 0 ≤ i) (hi6 : i + 6 ≤ F.1) (hV : LV iv) (hK : ∀ iv2, LV iv2 → J l (yL_law).cls cL_law 4 (some FieldType.boolean) 14 78 7462 false F P 78 7462 1692 [some (r_ 1000), some (r_ 0), some (r_ 61), some (i_ i)] [] S0 iv2) : J l (yL_law).cls cL_law 4 (some FieldType.boolean) 14 78 7462 false F (P) 78 7462 551 [some (r_ 1000), some (r_ 0), some (r_ 61), some (i_ i)] [] S0 (iv) := by
  refine J.aload_n (q := 552) dL_law_551 rfl ?_ rfl
  refine J.aload_n (q := 553) dL_law_552 rfl ?_ rfl
  refine J.iload_n (q := 554) dL_law_553 rfl ?_ rfl
  refine J.iconst (q := 555) dL_law_554 ?_ rfl
  refine J.iadd (q := 556) dL_law_555 ?_ rfl
  refine J.sld (q := 557) dL_law_556 (by omega) hF0 ?_ rfl
  refine J.callV1 (ci := 5) (q := 560) dL_law_557 mv_X5_go kL_L_51 rfl (by decide) rfl ⟨by decide, by decide⟩ (Nat.le_of_ble_eq_true rfl) ⟨by decide, by decide⟩ rfl (c_X5_go hV.1 hV.2.1 (hF1 _)) (fun v9 S9 iv9 hp => ?_)
  obtain ⟨rfl, rfl, b1, hC9⟩ := hp
  have hE := hi_eq b1
  have hA9 : AI iv9 := by
    have h := hV.2.1
    rw [← hE] at h
    exact h
  refine J.aload_n (q := 561) dL_law_560 rfl ?_ rfl
  refine J.aload_n (q := 562) dL_law_561 rfl ?_ rfl
  refine J.iload_n (q := 563) dL_law_562 rfl ?_ rfl
  refine J.iconst (q := 564) dL_law_563 ?_ rfl
  refine J.iadd (q := 565) dL_law_564 ?_ rfl
  refine J.sld (q := 566) dL_law_565 (by omega) hF0 ?_ rfl
  refine J.callV1 (ci := 6) (q := 569) dL_law_566 mv_X6_go kL_L_55 rfl (by decide) rfl ⟨by decide, by decide⟩ (Nat.le_of_ble_eq_true rfl) ⟨by decide, by decide⟩ rfl (c_X6_go hA9 (hF1 _)) (fun v8 S8 iv8 hp => ?_)
  rw [hE] at hp
  obtain ⟨rfl, rfl, b2, hL9⟩ := hp
  refine J.icmp_eq_same (tgt := 1692) (q := 572) dL_law_569 rfl rfl ?_
  exact hK iv8 (hV.go b1 hC9 b2 hL9 (ai_go hV.2.1))

theorem ai_now {A : Mm} (hA : AI A) {a0 : Int} : AI (an_now A a0).2 := by
  unfold an_now
  repeat' split
  all_goals exact hA
set_option maxRecDepth 100000 in
set_option maxHeartbeats 4000000 in
theorem law_10 {l : Launch} {F : Nat × (Int → Int)} {iv : Mm} {i : Int} {P : Option VT → Shp → Mm → Prop} (hF0 : F.1 < 65536) (hF1 : ∀ j, -2147483648 ≤ F.2 j ∧ F.2 j < 2147483648) (hi0 : 0 ≤ i) (hi6 : i + 6 ≤ F.1) (hV : LV iv) (hK : ∀ iv2, LV iv2 → J l (yL_law).cls cL_law 4 (some FieldType.boolean) 14 78 7462 false F P 78 7462 1692 [some (r_ 1000), some (r_ 0), some (r_ 61), some (i_ i)] [] S0 iv2) : J l (yL_law).cls cL_law 4 (some FieldType.boolean) 14 78 7462 false F (P) 78 7462 574 [some (r_ 1000), some (r_ 0), some (r_ 61), some (i_ i)] [] S0 (iv) := by
  refine J.aload_n (q := 575) dL_law_574 rfl ?_ rfl
  refine J.aload_n (q := 576) dL_law_575 rfl ?_ rfl
  refine J.iload_n (q := 577) dL_law_576 rfl ?_ rfl
  refine J.iconst (q := 578) dL_law_577 ?_ rfl
  refine J.iadd (q := 579) dL_law_578 ?_ rfl
  refine J.sld (q := 580) dL_law_579 (by omega) hF0 ?_ rfl
  refine J.callV1 (ci := 5) (q := 583) dL_law_580 mv_X5_now kL_L_56 rfl (by decide) rfl ⟨by decide, by decide⟩ (Nat.le_of_ble_eq_true rfl) ⟨by decide, by decide⟩ rfl (c_X5_now hV.1 hV.2.1 (hF1 _)) (fun v9 S9 iv9 hp => ?_)
  obtain ⟨rfl, rfl, b1, hC9⟩ := hp
  have hE := hi_eq b1
  have hA9 : AI iv9 := by
    have h := hV.2.1
    rw [← hE] at h
    exact h
  refine J.aload_n (q := 584) dL_law_583 rfl ?_ rfl
  refine J.aload_n (q := 585) dL_law_584 rfl ?_ rfl
  refine J.iload_n (q := 586) dL_law_585 rfl ?_ rfl
  refine J.iconst (q := 587) dL_law_586 ?_ rfl
  refine J.iadd (q := 588) dL_law_587 ?_ rfl
  refine J.sld (q := 589) dL_law_588 (by omega) hF0 ?_ rfl
  refine J.callV1 (ci := 6) (q := 592) dL_law_589 mv_X6_now kL_L_59 rfl (by decide) rfl ⟨by decide, by decide⟩ (Nat.le_of_ble_eq_true rfl) ⟨by decide, by decide⟩ rfl (c_X6_now hA9 (hF1 _)) (fun v8 S8 iv8 hp => ?_)
  rw [hE] at hp
  obtain ⟨rfl, rfl, b2, hL9⟩ := hp
  refine J.icmp_eq_same (tgt := 1692) (q := 595) dL_law_592 rfl rfl ?_
  exact hK iv8 (hV.go b1 hC9 b2 hL9 (ai_now hV.2.1))

theorem ai_realm {A : Mm} (hA : AI A) {a0 : Int} : AI (an_realm A a0).2 := by
  unfold an_realm
  repeat' split
  all_goals exact hA
set_option maxRecDepth 100000 in
set_option maxHeartbeats 4000000 in
theorem law_11 {l : Launch} {F : Nat × (Int → Int)} {iv : Mm} {i : Int} {P : Option VT → Shp → Mm → Prop} (hF0 : F.1 < 65536) (hF1 : ∀ j, -2147483648 ≤ F.2 j ∧ F.2 j < 2147483648) (hi0 : 0 ≤ i) (hi6 : i + 6 ≤ F.1) (hV : LV iv) (hK : ∀ iv2, LV iv2 → J l (yL_law).cls cL_law 4 (some FieldType.boolean) 14 78 7462 false F P 78 7462 1692 [some (r_ 1000), some (r_ 0), some (r_ 61), some (i_ i)] [] S0 iv2) : J l (yL_law).cls cL_law 4 (some FieldType.boolean) 14 78 7462 false F (P) 78 7462 597 [some (r_ 1000), some (r_ 0), some (r_ 61), some (i_ i)] [] S0 (iv) := by
  refine J.aload_n (q := 598) dL_law_597 rfl ?_ rfl
  refine J.aload_n (q := 599) dL_law_598 rfl ?_ rfl
  refine J.iload_n (q := 600) dL_law_599 rfl ?_ rfl
  refine J.iconst (q := 601) dL_law_600 ?_ rfl
  refine J.iadd (q := 602) dL_law_601 ?_ rfl
  refine J.sld (q := 603) dL_law_602 (by omega) hF0 ?_ rfl
  refine J.callV1 (ci := 5) (q := 606) dL_law_603 mv_X5_realm kL_L_60 rfl (by decide) rfl ⟨by decide, by decide⟩ (Nat.le_of_ble_eq_true rfl) ⟨by decide, by decide⟩ rfl (c_X5_realm hV.1 hV.2.1 (hF1 _)) (fun v9 S9 iv9 hp => ?_)
  obtain ⟨rfl, rfl, b1, hC9⟩ := hp
  have hE := hi_eq b1
  have hA9 : AI iv9 := by
    have h := hV.2.1
    rw [← hE] at h
    exact h
  refine J.aload_n (q := 607) dL_law_606 rfl ?_ rfl
  refine J.aload_n (q := 608) dL_law_607 rfl ?_ rfl
  refine J.iload_n (q := 609) dL_law_608 rfl ?_ rfl
  refine J.iconst (q := 610) dL_law_609 ?_ rfl
  refine J.iadd (q := 611) dL_law_610 ?_ rfl
  refine J.sld (q := 612) dL_law_611 (by omega) hF0 ?_ rfl
  refine J.callV1 (ci := 6) (q := 615) dL_law_612 mv_X6_realm kL_L_63 rfl (by decide) rfl ⟨by decide, by decide⟩ (Nat.le_of_ble_eq_true rfl) ⟨by decide, by decide⟩ rfl (c_X6_realm (D := 99999) (by decide) hA9.mi (hF1 _)) (fun v8 S8 iv8 hp => ?_)
  rw [hE] at hp
  obtain ⟨rfl, rfl, b2, hL9⟩ := hp
  refine J.icmp_eq_same (tgt := 1692) (q := 618) dL_law_615 rfl rfl ?_
  exact hK iv8 (hV.go b1 hC9 b2 hL9 (ai_realm hV.2.1))

set_option maxRecDepth 100000 in
set_option maxHeartbeats 4000000 in
theorem law_12 {l : Launch} {F : Nat × (Int → Int)} {iv : Mm} {i : Int} {P : Option VT → Shp → Mm → Prop} (hF0 : F.1 < 65536) (hF1 : ∀ j, -2147483648 ≤ F.2 j ∧ F.2 j < 2147483648) (hi0 : 0 ≤ i) (hi6 : i + 6 ≤ F.1) (hV : LV iv) (hK : ∀ iv2, LV iv2 → J l (yL_law).cls cL_law 4 (some FieldType.boolean) 14 78 7462 false F P 78 7462 1692 [some (r_ 1000), some (r_ 0), some (r_ 61), some (i_ i)] [] S0 iv2) : J l (yL_law).cls cL_law 4 (some FieldType.boolean) 14 78 7462 false F (P) 78 7462 620 [some (r_ 1000), some (r_ 0), some (r_ 61), some (i_ i)] [] S0 (iv) := by
  refine J.aload_n (q := 621) dL_law_620 rfl ?_ rfl
  refine J.callV0 (ci := 5) (q := 624) dL_law_621 mv_X5_repeals kL_L_64 rfl (by decide) rfl ⟨by decide, by decide⟩ (Nat.le_of_ble_eq_true rfl) ⟨by decide, by decide⟩ rfl (c_X5_repeals hV.1 hV.2.1 ) (fun v9 S9 iv9 hp => ?_)
  obtain ⟨rfl, rfl, b1, hC9⟩ := hp
  have hE := hi_eq b1
  have hA9 : AI iv9 := by
    have h := hV.2.1
    rw [← hE] at h
    exact h
  refine J.aload_n (q := 625) dL_law_624 rfl ?_ rfl
  refine J.callV0 (ci := 6) (q := 628) dL_law_625 mv_X6_repeals kL_L_68 rfl (by decide) rfl ⟨by decide, by decide⟩ (Nat.le_of_ble_eq_true rfl) ⟨by decide, by decide⟩ rfl (c_X6_repeals (D := 99999) (by decide) hA9.mi ) (fun v8 S8 iv8 hp => ?_)
  rw [hE] at hp
  obtain ⟨rfl, rfl, b2, hL9⟩ := hp
  refine J.icmp_eq_same (tgt := 1692) (q := 631) dL_law_628 rfl rfl ?_
  exact hK iv8 (hV.go b1 hC9 b2 hL9 (ai_repeals hV.2.1))

theorem ai_may {A : Mm} (hA : AI A) {a0 a1 : Int} : AI (an_may A a0 a1).2 := by
  unfold an_may
  repeat' split
  all_goals exact hA
set_option maxRecDepth 100000 in
set_option maxHeartbeats 4000000 in
theorem law_13 {l : Launch} {F : Nat × (Int → Int)} {iv : Mm} {i : Int} {P : Option VT → Shp → Mm → Prop} (hF0 : F.1 < 65536) (hF1 : ∀ j, -2147483648 ≤ F.2 j ∧ F.2 j < 2147483648) (hi0 : 0 ≤ i) (hi6 : i + 6 ≤ F.1) (hV : LV iv) (hK : ∀ iv2, LV iv2 → J l (yL_law).cls cL_law 4 (some FieldType.boolean) 14 78 7462 false F P 78 7462 1692 [some (r_ 1000), some (r_ 0), some (r_ 61), some (i_ i)] [] S0 iv2) : J l (yL_law).cls cL_law 4 (some FieldType.boolean) 14 78 7462 false F (P) 78 7462 633 [some (r_ 1000), some (r_ 0), some (r_ 61), some (i_ i)] [] S0 (iv) := by
  refine J.aload_n (q := 634) dL_law_633 rfl ?_ rfl
  refine J.aload_n (q := 635) dL_law_634 rfl ?_ rfl
  refine J.iload_n (q := 636) dL_law_635 rfl ?_ rfl
  refine J.iconst (q := 637) dL_law_636 ?_ rfl
  refine J.iadd (q := 638) dL_law_637 ?_ rfl
  refine J.sld (q := 639) dL_law_638 (by omega) hF0 ?_ rfl
  refine J.aload_n (q := 640) dL_law_639 rfl ?_ rfl
  refine J.iload_n (q := 641) dL_law_640 rfl ?_ rfl
  refine J.iconst (q := 642) dL_law_641 ?_ rfl
  refine J.iadd (q := 643) dL_law_642 ?_ rfl
  refine J.sld (q := 644) dL_law_643 (by omega) hF0 ?_ rfl
  refine J.callV2 (ci := 5) (q := 647) dL_law_644 mv_X5_may kL_L_69 rfl (by decide) rfl ⟨by decide, by decide⟩ (Nat.le_of_ble_eq_true rfl) ⟨by decide, by decide⟩ rfl (c_X5_may hV.1 hV.2.1 (hF1 _) (hF1 _)) (fun v9 S9 iv9 hp => ?_)
  obtain ⟨rfl, rfl, b1, hC9⟩ := hp
  have hE := hi_eq b1
  have hA9 : AI iv9 := by
    have h := hV.2.1
    rw [← hE] at h
    exact h
  refine J.aload_n (q := 648) dL_law_647 rfl ?_ rfl
  refine J.aload_n (q := 649) dL_law_648 rfl ?_ rfl
  refine J.iload_n (q := 650) dL_law_649 rfl ?_ rfl
  refine J.iconst (q := 651) dL_law_650 ?_ rfl
  refine J.iadd (q := 652) dL_law_651 ?_ rfl
  refine J.sld (q := 653) dL_law_652 (by omega) hF0 ?_ rfl
  refine J.aload_n (q := 654) dL_law_653 rfl ?_ rfl
  refine J.iload_n (q := 655) dL_law_654 rfl ?_ rfl
  refine J.iconst (q := 656) dL_law_655 ?_ rfl
  refine J.iadd (q := 657) dL_law_656 ?_ rfl
  refine J.sld (q := 658) dL_law_657 (by omega) hF0 ?_ rfl
  refine J.callV2 (ci := 6) (q := 661) dL_law_658 mv_X6_may kL_L_72 rfl (by decide) rfl ⟨by decide, by decide⟩ (Nat.le_of_ble_eq_true rfl) ⟨by decide, by decide⟩ rfl (c_X6_may (D := 99999) (by decide) hA9.mi (hF1 _) (hF1 _)) (fun v8 S8 iv8 hp => ?_)
  rw [hE] at hp
  obtain ⟨rfl, rfl, b2, hL9⟩ := hp
  refine J.icmp_eq_same (tgt := 1692) (q := 664) dL_law_661 rfl rfl ?_
  exact hK iv8 (hV.go b1 hC9 b2 hL9 (ai_may hV.2.1))

theorem ai_where {A : Mm} (hA : AI A) {a0 : Int} : AI (an_where A a0).2 := by
  unfold an_where
  repeat' split
  all_goals exact hA
set_option maxRecDepth 100000 in
set_option maxHeartbeats 4000000 in
theorem law_14 {l : Launch} {F : Nat × (Int → Int)} {iv : Mm} {i : Int} {P : Option VT → Shp → Mm → Prop} (hF0 : F.1 < 65536) (hF1 : ∀ j, -2147483648 ≤ F.2 j ∧ F.2 j < 2147483648) (hi0 : 0 ≤ i) (hi6 : i + 6 ≤ F.1) (hV : LV iv) (hK : ∀ iv2, LV iv2 → J l (yL_law).cls cL_law 4 (some FieldType.boolean) 14 78 7462 false F P 78 7462 1692 [some (r_ 1000), some (r_ 0), some (r_ 61), some (i_ i)] [] S0 iv2) : J l (yL_law).cls cL_law 4 (some FieldType.boolean) 14 78 7462 false F (P) 78 7462 666 [some (r_ 1000), some (r_ 0), some (r_ 61), some (i_ i)] [] S0 (iv) := by
  refine J.aload_n (q := 667) dL_law_666 rfl ?_ rfl
  refine J.aload_n (q := 668) dL_law_667 rfl ?_ rfl
  refine J.iload_n (q := 669) dL_law_668 rfl ?_ rfl
  refine J.iconst (q := 670) dL_law_669 ?_ rfl
  refine J.iadd (q := 671) dL_law_670 ?_ rfl
  refine J.sld (q := 672) dL_law_671 (by omega) hF0 ?_ rfl
  refine J.callV1 (ci := 5) (q := 675) dL_law_672 mv_X5_where kL_L_73 rfl (by decide) rfl ⟨by decide, by decide⟩ (Nat.le_of_ble_eq_true rfl) ⟨by decide, by decide⟩ rfl (c_X5_where hV.1 hV.2.1 (hF1 _)) (fun v9 S9 iv9 hp => ?_)
  obtain ⟨rfl, rfl, b1, hC9⟩ := hp
  have hE := hi_eq b1
  have hA9 : AI iv9 := by
    have h := hV.2.1
    rw [← hE] at h
    exact h
  refine J.aload_n (q := 676) dL_law_675 rfl ?_ rfl
  refine J.aload_n (q := 677) dL_law_676 rfl ?_ rfl
  refine J.iload_n (q := 678) dL_law_677 rfl ?_ rfl
  refine J.iconst (q := 679) dL_law_678 ?_ rfl
  refine J.iadd (q := 680) dL_law_679 ?_ rfl
  refine J.sld (q := 681) dL_law_680 (by omega) hF0 ?_ rfl
  refine J.callV1 (ci := 6) (q := 684) dL_law_681 mv_X6_where kL_L_76 rfl (by decide) rfl ⟨by decide, by decide⟩ (Nat.le_of_ble_eq_true rfl) ⟨by decide, by decide⟩ rfl (c_X6_where (D := 99999) (by decide) hA9.mi (hF1 _)) (fun v8 S8 iv8 hp => ?_)
  rw [hE] at hp
  obtain ⟨rfl, rfl, b2, hL9⟩ := hp
  refine J.icmp_eq_same (tgt := 1692) (q := 687) dL_law_684 rfl rfl ?_
  exact hK iv8 (hV.go b1 hC9 b2 hL9 (ai_where hV.2.1))

theorem ai_route {A : Mm} (hA : AI A) {a0 a1 a2 : Int} : AI (an_route A a0 a1 a2).2 := by
  unfold an_route
  repeat' split
  all_goals exact hA
set_option maxRecDepth 100000 in
set_option maxHeartbeats 4000000 in
theorem law_15 {l : Launch} {F : Nat × (Int → Int)} {iv : Mm} {i : Int} {P : Option VT → Shp → Mm → Prop} (hF0 : F.1 < 65536) (hF1 : ∀ j, -2147483648 ≤ F.2 j ∧ F.2 j < 2147483648) (hi0 : 0 ≤ i) (hi6 : i + 6 ≤ F.1) (hV : LV iv) (hK : ∀ iv2, LV iv2 → J l (yL_law).cls cL_law 4 (some FieldType.boolean) 14 78 7462 false F P 78 7462 1692 [some (r_ 1000), some (r_ 0), some (r_ 61), some (i_ i)] [] S0 iv2) : J l (yL_law).cls cL_law 4 (some FieldType.boolean) 14 78 7462 false F (P) 78 7462 689 [some (r_ 1000), some (r_ 0), some (r_ 61), some (i_ i)] [] S0 (iv) := by
  refine J.aload_n (q := 690) dL_law_689 rfl ?_ rfl
  refine J.aload_n (q := 691) dL_law_690 rfl ?_ rfl
  refine J.iload_n (q := 692) dL_law_691 rfl ?_ rfl
  refine J.iconst (q := 693) dL_law_692 ?_ rfl
  refine J.iadd (q := 694) dL_law_693 ?_ rfl
  refine J.sld (q := 695) dL_law_694 (by omega) hF0 ?_ rfl
  refine J.aload_n (q := 696) dL_law_695 rfl ?_ rfl
  refine J.iload_n (q := 697) dL_law_696 rfl ?_ rfl
  refine J.iconst (q := 698) dL_law_697 ?_ rfl
  refine J.iadd (q := 699) dL_law_698 ?_ rfl
  refine J.sld (q := 700) dL_law_699 (by omega) hF0 ?_ rfl
  refine J.aload_n (q := 701) dL_law_700 rfl ?_ rfl
  refine J.iload_n (q := 702) dL_law_701 rfl ?_ rfl
  refine J.iconst (q := 703) dL_law_702 ?_ rfl
  refine J.iadd (q := 704) dL_law_703 ?_ rfl
  refine J.sld (q := 705) dL_law_704 (by omega) hF0 ?_ rfl
  refine J.callV3 (ci := 5) (q := 708) dL_law_705 mv_X5_route kL_L_77 rfl (by decide) rfl ⟨by decide, by decide⟩ (Nat.le_of_ble_eq_true rfl) ⟨by decide, by decide⟩ rfl (c_X5_route hV.1 hV.2.1 (hF1 _) (hF1 _) (hF1 _)) (fun v9 S9 iv9 hp => ?_)
  obtain ⟨rfl, rfl, b1, hC9⟩ := hp
  have hE := hi_eq b1
  have hA9 : AI iv9 := by
    have h := hV.2.1
    rw [← hE] at h
    exact h
  refine J.aload_n (q := 709) dL_law_708 rfl ?_ rfl
  refine J.aload_n (q := 710) dL_law_709 rfl ?_ rfl
  refine J.iload_n (q := 711) dL_law_710 rfl ?_ rfl
  refine J.iconst (q := 712) dL_law_711 ?_ rfl
  refine J.iadd (q := 713) dL_law_712 ?_ rfl
  refine J.sld (q := 714) dL_law_713 (by omega) hF0 ?_ rfl
  refine J.aload_n (q := 715) dL_law_714 rfl ?_ rfl
  refine J.iload_n (q := 716) dL_law_715 rfl ?_ rfl
  refine J.iconst (q := 717) dL_law_716 ?_ rfl
  refine J.iadd (q := 718) dL_law_717 ?_ rfl
  refine J.sld (q := 719) dL_law_718 (by omega) hF0 ?_ rfl
  refine J.aload_n (q := 720) dL_law_719 rfl ?_ rfl
  refine J.iload_n (q := 721) dL_law_720 rfl ?_ rfl
  refine J.iconst (q := 722) dL_law_721 ?_ rfl
  refine J.iadd (q := 723) dL_law_722 ?_ rfl
  refine J.sld (q := 724) dL_law_723 (by omega) hF0 ?_ rfl
  refine J.callV3 (ci := 6) (q := 727) dL_law_724 mv_X6_route kL_L_80 rfl (by decide) rfl ⟨by decide, by decide⟩ (Nat.le_of_ble_eq_true rfl) ⟨by decide, by decide⟩ rfl (c_X6_route hA9 (hF1 _) (hF1 _) (hF1 _)) (fun v8 S8 iv8 hp => ?_)
  rw [hE] at hp
  obtain ⟨rfl, rfl, b2, hL9⟩ := hp
  refine J.icmp_eq_same (tgt := 1692) (q := 730) dL_law_727 rfl rfl ?_
  exact hK iv8 (hV.go b1 hC9 b2 hL9 (ai_route hV.2.1))

theorem ai_free {A : Mm} (hA : AI A) : AI (an_free A).2 := hA
set_option maxRecDepth 100000 in
set_option maxHeartbeats 4000000 in
theorem law_16 {l : Launch} {F : Nat × (Int → Int)} {iv : Mm} {i : Int} {P : Option VT → Shp → Mm → Prop} (hF0 : F.1 < 65536) (hF1 : ∀ j, -2147483648 ≤ F.2 j ∧ F.2 j < 2147483648) (hi0 : 0 ≤ i) (hi6 : i + 6 ≤ F.1) (hV : LV iv) (hK : ∀ iv2, LV iv2 → J l (yL_law).cls cL_law 4 (some FieldType.boolean) 14 78 7462 false F P 78 7462 1692 [some (r_ 1000), some (r_ 0), some (r_ 61), some (i_ i)] [] S0 iv2) : J l (yL_law).cls cL_law 4 (some FieldType.boolean) 14 78 7462 false F (P) 78 7462 732 [some (r_ 1000), some (r_ 0), some (r_ 61), some (i_ i)] [] S0 (iv) := by
  refine J.aload_n (q := 733) dL_law_732 rfl ?_ rfl
  refine J.callV0 (ci := 5) (q := 736) dL_law_733 mv_X5_free kL_L_81 rfl (by decide) rfl ⟨by decide, by decide⟩ (Nat.le_of_ble_eq_true rfl) ⟨by decide, by decide⟩ rfl (c_X5_free hV.1 hV.2.1 ) (fun v9 S9 iv9 hp => ?_)
  obtain ⟨rfl, rfl, b1, hC9⟩ := hp
  have hE := hi_eq b1
  have hA9 : AI iv9 := by
    have h := hV.2.1
    rw [← hE] at h
    exact h
  refine J.aload_n (q := 737) dL_law_736 rfl ?_ rfl
  refine J.callV0 (ci := 6) (q := 740) dL_law_737 mv_X6_free kL_L_84 rfl (by decide) rfl ⟨by decide, by decide⟩ (Nat.le_of_ble_eq_true rfl) ⟨by decide, by decide⟩ rfl (c_X6_free hA9 ) (fun v8 S8 iv8 hp => ?_)
  rw [hE] at hp
  obtain ⟨rfl, rfl, b2, hL9⟩ := hp
  refine J.icmp_eq_same (tgt := 1692) (q := 743) dL_law_740 rfl rfl ?_
  exact hK iv8 (hV.go b1 hC9 b2 hL9 (ai_free hV.2.1))

theorem ai_ahead {A : Mm} (hA : AI A) {a0 a1 : Int} : AI (an_ahead A a0 a1).2 := by
  unfold an_ahead
  repeat' split
  all_goals exact hA
set_option maxRecDepth 100000 in
set_option maxHeartbeats 4000000 in
theorem law_17 {l : Launch} {F : Nat × (Int → Int)} {iv : Mm} {i : Int} {P : Option VT → Shp → Mm → Prop} (hF0 : F.1 < 65536) (hF1 : ∀ j, -2147483648 ≤ F.2 j ∧ F.2 j < 2147483648) (hi0 : 0 ≤ i) (hi6 : i + 6 ≤ F.1) (hV : LV iv) (hK : ∀ iv2, LV iv2 → J l (yL_law).cls cL_law 4 (some FieldType.boolean) 14 78 7462 false F P 78 7462 1692 [some (r_ 1000), some (r_ 0), some (r_ 61), some (i_ i)] [] S0 iv2) : J l (yL_law).cls cL_law 4 (some FieldType.boolean) 14 78 7462 false F (P) 78 7462 745 [some (r_ 1000), some (r_ 0), some (r_ 61), some (i_ i)] [] S0 (iv) := by
  refine J.aload_n (q := 746) dL_law_745 rfl ?_ rfl
  refine J.aload_n (q := 747) dL_law_746 rfl ?_ rfl
  refine J.iload_n (q := 748) dL_law_747 rfl ?_ rfl
  refine J.iconst (q := 749) dL_law_748 ?_ rfl
  refine J.iadd (q := 750) dL_law_749 ?_ rfl
  refine J.sld (q := 751) dL_law_750 (by omega) hF0 ?_ rfl
  refine J.aload_n (q := 752) dL_law_751 rfl ?_ rfl
  refine J.iload_n (q := 753) dL_law_752 rfl ?_ rfl
  refine J.iconst (q := 754) dL_law_753 ?_ rfl
  refine J.iadd (q := 755) dL_law_754 ?_ rfl
  refine J.sld (q := 756) dL_law_755 (by omega) hF0 ?_ rfl
  refine J.callV2 (ci := 5) (q := 759) dL_law_756 mv_X5_ahead kL_L_85 rfl (by decide) rfl ⟨by decide, by decide⟩ (Nat.le_of_ble_eq_true rfl) ⟨by decide, by decide⟩ rfl (c_X5_ahead hV.1 hV.2.1 (hF1 _) (hF1 _)) (fun v9 S9 iv9 hp => ?_)
  obtain ⟨rfl, rfl, b1, hC9⟩ := hp
  have hE := hi_eq b1
  have hA9 : AI iv9 := by
    have h := hV.2.1
    rw [← hE] at h
    exact h
  refine J.aload_n (q := 760) dL_law_759 rfl ?_ rfl
  refine J.aload_n (q := 761) dL_law_760 rfl ?_ rfl
  refine J.iload_n (q := 762) dL_law_761 rfl ?_ rfl
  refine J.iconst (q := 763) dL_law_762 ?_ rfl
  refine J.iadd (q := 764) dL_law_763 ?_ rfl
  refine J.sld (q := 765) dL_law_764 (by omega) hF0 ?_ rfl
  refine J.aload_n (q := 766) dL_law_765 rfl ?_ rfl
  refine J.iload_n (q := 767) dL_law_766 rfl ?_ rfl
  refine J.iconst (q := 768) dL_law_767 ?_ rfl
  refine J.iadd (q := 769) dL_law_768 ?_ rfl
  refine J.sld (q := 770) dL_law_769 (by omega) hF0 ?_ rfl
  refine J.callV2 (ci := 6) (q := 773) dL_law_770 mv_X6_ahead kL_L_88 rfl (by decide) rfl ⟨by decide, by decide⟩ (Nat.le_of_ble_eq_true rfl) ⟨by decide, by decide⟩ rfl (c_X6_ahead hA9 (hF1 _) (hF1 _)) (fun v8 S8 iv8 hp => ?_)
  rw [hE] at hp
  obtain ⟨rfl, rfl, b2, hL9⟩ := hp
  refine J.icmp_eq_same (tgt := 1692) (q := 776) dL_law_773 rfl rfl ?_
  exact hK iv8 (hV.go b1 hC9 b2 hL9 (ai_ahead hV.2.1))

theorem ai_lawAt {A : Mm} (hA : AI A) {a0 a1 : Int} : AI (an_lawAt A a0 a1).2 := by
  unfold an_lawAt
  repeat' split
  all_goals exact hA
set_option maxRecDepth 100000 in
set_option maxHeartbeats 4000000 in
theorem law_18 {l : Launch} {F : Nat × (Int → Int)} {iv : Mm} {i : Int} {P : Option VT → Shp → Mm → Prop} (hF0 : F.1 < 65536) (hF1 : ∀ j, -2147483648 ≤ F.2 j ∧ F.2 j < 2147483648) (hi0 : 0 ≤ i) (hi6 : i + 6 ≤ F.1) (hV : LV iv) (hK : ∀ iv2, LV iv2 → J l (yL_law).cls cL_law 4 (some FieldType.boolean) 14 78 7462 false F P 78 7462 1692 [some (r_ 1000), some (r_ 0), some (r_ 61), some (i_ i)] [] S0 iv2) : J l (yL_law).cls cL_law 4 (some FieldType.boolean) 14 78 7462 false F (P) 78 7462 778 [some (r_ 1000), some (r_ 0), some (r_ 61), some (i_ i)] [] S0 (iv) := by
  refine J.aload_n (q := 779) dL_law_778 rfl ?_ rfl
  refine J.aload_n (q := 780) dL_law_779 rfl ?_ rfl
  refine J.iload_n (q := 781) dL_law_780 rfl ?_ rfl
  refine J.iconst (q := 782) dL_law_781 ?_ rfl
  refine J.iadd (q := 783) dL_law_782 ?_ rfl
  refine J.sld (q := 784) dL_law_783 (by omega) hF0 ?_ rfl
  refine J.aload_n (q := 785) dL_law_784 rfl ?_ rfl
  refine J.iload_n (q := 786) dL_law_785 rfl ?_ rfl
  refine J.iconst (q := 787) dL_law_786 ?_ rfl
  refine J.iadd (q := 788) dL_law_787 ?_ rfl
  refine J.sld (q := 789) dL_law_788 (by omega) hF0 ?_ rfl
  refine J.callV2 (ci := 5) (q := 792) dL_law_789 mv_X5_lawAt kL_L_89 rfl (by decide) rfl ⟨by decide, by decide⟩ (Nat.le_of_ble_eq_true rfl) ⟨by decide, by decide⟩ rfl (c_X5_lawAt hV.1 hV.2.1 (hF1 _) (hF1 _)) (fun v9 S9 iv9 hp => ?_)
  obtain ⟨rfl, rfl, b1, hC9⟩ := hp
  have hE := hi_eq b1
  have hA9 : AI iv9 := by
    have h := hV.2.1
    rw [← hE] at h
    exact h
  refine J.aload_n (q := 793) dL_law_792 rfl ?_ rfl
  refine J.aload_n (q := 794) dL_law_793 rfl ?_ rfl
  refine J.iload_n (q := 795) dL_law_794 rfl ?_ rfl
  refine J.iconst (q := 796) dL_law_795 ?_ rfl
  refine J.iadd (q := 797) dL_law_796 ?_ rfl
  refine J.sld (q := 798) dL_law_797 (by omega) hF0 ?_ rfl
  refine J.aload_n (q := 799) dL_law_798 rfl ?_ rfl
  refine J.iload_n (q := 800) dL_law_799 rfl ?_ rfl
  refine J.iconst (q := 801) dL_law_800 ?_ rfl
  refine J.iadd (q := 802) dL_law_801 ?_ rfl
  refine J.sld (q := 803) dL_law_802 (by omega) hF0 ?_ rfl
  refine J.callV2 (ci := 6) (q := 806) dL_law_803 mv_X6_lawAt kL_L_92 rfl (by decide) rfl ⟨by decide, by decide⟩ (Nat.le_of_ble_eq_true rfl) ⟨by decide, by decide⟩ rfl (c_X6_lawAt hA9 (hF1 _) (hF1 _)) (fun v8 S8 iv8 hp => ?_)
  rw [hE] at hp
  obtain ⟨rfl, rfl, b2, hL9⟩ := hp
  refine J.icmp_eq_same (tgt := 1692) (q := 809) dL_law_806 rfl rfl ?_
  exact hK iv8 (hV.go b1 hC9 b2 hL9 (ai_lawAt hV.2.1))

theorem ai_reaches {A : Mm} (hA : AI A) {a0 a1 : Int} : AI (an_reaches A a0 a1).2 := by
  unfold an_reaches
  repeat' split
  all_goals exact hA
set_option maxRecDepth 100000 in
set_option maxHeartbeats 4000000 in
theorem law_19 {l : Launch} {F : Nat × (Int → Int)} {iv : Mm} {i : Int} {P : Option VT → Shp → Mm → Prop} (hF0 : F.1 < 65536) (hF1 : ∀ j, -2147483648 ≤ F.2 j ∧ F.2 j < 2147483648) (hi0 : 0 ≤ i) (hi6 : i + 6 ≤ F.1) (hV : LV iv) (hK : ∀ iv2, LV iv2 → J l (yL_law).cls cL_law 4 (some FieldType.boolean) 14 78 7462 false F P 78 7462 1692 [some (r_ 1000), some (r_ 0), some (r_ 61), some (i_ i)] [] S0 iv2) : J l (yL_law).cls cL_law 4 (some FieldType.boolean) 14 78 7462 false F (P) 78 7462 811 [some (r_ 1000), some (r_ 0), some (r_ 61), some (i_ i)] [] S0 (iv) := by
  refine J.aload_n (q := 812) dL_law_811 rfl ?_ rfl
  refine J.aload_n (q := 813) dL_law_812 rfl ?_ rfl
  refine J.iload_n (q := 814) dL_law_813 rfl ?_ rfl
  refine J.iconst (q := 815) dL_law_814 ?_ rfl
  refine J.iadd (q := 816) dL_law_815 ?_ rfl
  refine J.sld (q := 817) dL_law_816 (by omega) hF0 ?_ rfl
  refine J.aload_n (q := 818) dL_law_817 rfl ?_ rfl
  refine J.iload_n (q := 819) dL_law_818 rfl ?_ rfl
  refine J.iconst (q := 820) dL_law_819 ?_ rfl
  refine J.iadd (q := 821) dL_law_820 ?_ rfl
  refine J.sld (q := 822) dL_law_821 (by omega) hF0 ?_ rfl
  refine J.callV2 (ci := 5) (q := 825) dL_law_822 mv_X5_reaches kL_L_93 rfl (by decide) rfl ⟨by decide, by decide⟩ (Nat.le_of_ble_eq_true rfl) ⟨by decide, by decide⟩ rfl (c_X5_reaches hV.1 hV.2.1 (hF1 _) (hF1 _)) (fun v9 S9 iv9 hp => ?_)
  obtain ⟨rfl, rfl, b1, hC9⟩ := hp
  have hE := hi_eq b1
  have hA9 : AI iv9 := by
    have h := hV.2.1
    rw [← hE] at h
    exact h
  refine J.aload_n (q := 826) dL_law_825 rfl ?_ rfl
  refine J.aload_n (q := 827) dL_law_826 rfl ?_ rfl
  refine J.iload_n (q := 828) dL_law_827 rfl ?_ rfl
  refine J.iconst (q := 829) dL_law_828 ?_ rfl
  refine J.iadd (q := 830) dL_law_829 ?_ rfl
  refine J.sld (q := 831) dL_law_830 (by omega) hF0 ?_ rfl
  refine J.aload_n (q := 832) dL_law_831 rfl ?_ rfl
  refine J.iload_n (q := 833) dL_law_832 rfl ?_ rfl
  refine J.iconst (q := 834) dL_law_833 ?_ rfl
  refine J.iadd (q := 835) dL_law_834 ?_ rfl
  refine J.sld (q := 836) dL_law_835 (by omega) hF0 ?_ rfl
  refine J.callV2 (ci := 6) (q := 839) dL_law_836 mv_X6_reaches kL_L_96 rfl (by decide) rfl ⟨by decide, by decide⟩ (Nat.le_of_ble_eq_true rfl) ⟨by decide, by decide⟩ rfl (c_X6_reaches hA9 (hF1 _) (hF1 _)) (fun v8 S8 iv8 hp => ?_)
  rw [hE] at hp
  obtain ⟨rfl, rfl, b2, hL9⟩ := hp
  refine J.icmp_eq_same (tgt := 1692) (q := 842) dL_law_839 rfl rfl ?_
  exact hK iv8 (hV.go b1 hC9 b2 hL9 (ai_reaches hV.2.1))

theorem ai_wetFor {A : Mm} (hA : AI A) {a0 a1 : Int} : AI (an_wetFor A a0 a1).2 := by
  unfold an_wetFor
  repeat' split
  all_goals exact hA
set_option maxRecDepth 100000 in
set_option maxHeartbeats 4000000 in
theorem law_20 {l : Launch} {F : Nat × (Int → Int)} {iv : Mm} {i : Int} {P : Option VT → Shp → Mm → Prop} (hF0 : F.1 < 65536) (hF1 : ∀ j, -2147483648 ≤ F.2 j ∧ F.2 j < 2147483648) (hi0 : 0 ≤ i) (hi6 : i + 6 ≤ F.1) (hV : LV iv) (hK : ∀ iv2, LV iv2 → J l (yL_law).cls cL_law 4 (some FieldType.boolean) 14 78 7462 false F P 78 7462 1692 [some (r_ 1000), some (r_ 0), some (r_ 61), some (i_ i)] [] S0 iv2) : J l (yL_law).cls cL_law 4 (some FieldType.boolean) 14 78 7462 false F (P) 78 7462 844 [some (r_ 1000), some (r_ 0), some (r_ 61), some (i_ i)] [] S0 (iv) := by
  refine J.aload_n (q := 845) dL_law_844 rfl ?_ rfl
  refine J.aload_n (q := 846) dL_law_845 rfl ?_ rfl
  refine J.iload_n (q := 847) dL_law_846 rfl ?_ rfl
  refine J.iconst (q := 848) dL_law_847 ?_ rfl
  refine J.iadd (q := 849) dL_law_848 ?_ rfl
  refine J.sld (q := 850) dL_law_849 (by omega) hF0 ?_ rfl
  refine J.aload_n (q := 851) dL_law_850 rfl ?_ rfl
  refine J.iload_n (q := 852) dL_law_851 rfl ?_ rfl
  refine J.iconst (q := 853) dL_law_852 ?_ rfl
  refine J.iadd (q := 854) dL_law_853 ?_ rfl
  refine J.sld (q := 855) dL_law_854 (by omega) hF0 ?_ rfl
  refine J.callV2 (ci := 5) (q := 858) dL_law_855 mv_X5_wetFor kL_L_97 rfl (by decide) rfl ⟨by decide, by decide⟩ (Nat.le_of_ble_eq_true rfl) ⟨by decide, by decide⟩ rfl (c_X5_wetFor hV.1 hV.2.1 (hF1 _) (hF1 _)) (fun v9 S9 iv9 hp => ?_)
  obtain ⟨rfl, rfl, b1, hC9⟩ := hp
  have hE := hi_eq b1
  have hA9 : AI iv9 := by
    have h := hV.2.1
    rw [← hE] at h
    exact h
  refine J.aload_n (q := 859) dL_law_858 rfl ?_ rfl
  refine J.aload_n (q := 860) dL_law_859 rfl ?_ rfl
  refine J.iload_n (q := 861) dL_law_860 rfl ?_ rfl
  refine J.iconst (q := 862) dL_law_861 ?_ rfl
  refine J.iadd (q := 863) dL_law_862 ?_ rfl
  refine J.sld (q := 864) dL_law_863 (by omega) hF0 ?_ rfl
  refine J.aload_n (q := 865) dL_law_864 rfl ?_ rfl
  refine J.iload_n (q := 866) dL_law_865 rfl ?_ rfl
  refine J.iconst (q := 867) dL_law_866 ?_ rfl
  refine J.iadd (q := 868) dL_law_867 ?_ rfl
  refine J.sld (q := 869) dL_law_868 (by omega) hF0 ?_ rfl
  refine J.callV2 (ci := 6) (q := 872) dL_law_869 mv_X6_wetFor kL_L_100 rfl (by decide) rfl ⟨by decide, by decide⟩ (Nat.le_of_ble_eq_true rfl) ⟨by decide, by decide⟩ rfl (c_X6_wetFor hA9 (hF1 _) (hF1 _)) (fun v8 S8 iv8 hp => ?_)
  rw [hE] at hp
  obtain ⟨rfl, rfl, b2, hL9⟩ := hp
  refine J.icmp_eq_same (tgt := 1692) (q := 875) dL_law_872 rfl rfl ?_
  exact hK iv8 (hV.go b1 hC9 b2 hL9 (ai_wetFor hV.2.1))

theorem ai_comes {A : Mm} (hA : AI A) {a0 : Int} : AI (an_comes A a0).2 := by
  unfold an_comes
  repeat' split
  all_goals exact hA
set_option maxRecDepth 100000 in
set_option maxHeartbeats 4000000 in
theorem law_21 {l : Launch} {F : Nat × (Int → Int)} {iv : Mm} {i : Int} {P : Option VT → Shp → Mm → Prop} (hF0 : F.1 < 65536) (hF1 : ∀ j, -2147483648 ≤ F.2 j ∧ F.2 j < 2147483648) (hi0 : 0 ≤ i) (hi6 : i + 6 ≤ F.1) (hV : LV iv) (hK : ∀ iv2, LV iv2 → J l (yL_law).cls cL_law 4 (some FieldType.boolean) 14 78 7462 false F P 78 7462 1692 [some (r_ 1000), some (r_ 0), some (r_ 61), some (i_ i)] [] S0 iv2) : J l (yL_law).cls cL_law 4 (some FieldType.boolean) 14 78 7462 false F (P) 78 7462 877 [some (r_ 1000), some (r_ 0), some (r_ 61), some (i_ i)] [] S0 (iv) := by
  refine J.aload_n (q := 878) dL_law_877 rfl ?_ rfl
  refine J.aload_n (q := 879) dL_law_878 rfl ?_ rfl
  refine J.iload_n (q := 880) dL_law_879 rfl ?_ rfl
  refine J.iconst (q := 881) dL_law_880 ?_ rfl
  refine J.iadd (q := 882) dL_law_881 ?_ rfl
  refine J.sld (q := 883) dL_law_882 (by omega) hF0 ?_ rfl
  refine J.callV1 (ci := 5) (q := 886) dL_law_883 mv_X5_comes kL_L_101 rfl (by decide) rfl ⟨by decide, by decide⟩ (Nat.le_of_ble_eq_true rfl) ⟨by decide, by decide⟩ rfl (c_X5_comes hV.1 hV.2.1 (hF1 _)) (fun v9 S9 iv9 hp => ?_)
  obtain ⟨rfl, rfl, b1, hC9⟩ := hp
  have hE := hi_eq b1
  have hA9 : AI iv9 := by
    have h := hV.2.1
    rw [← hE] at h
    exact h
  refine J.aload_n (q := 887) dL_law_886 rfl ?_ rfl
  refine J.aload_n (q := 888) dL_law_887 rfl ?_ rfl
  refine J.iload_n (q := 889) dL_law_888 rfl ?_ rfl
  refine J.iconst (q := 890) dL_law_889 ?_ rfl
  refine J.iadd (q := 891) dL_law_890 ?_ rfl
  refine J.sld (q := 892) dL_law_891 (by omega) hF0 ?_ rfl
  refine J.callV1 (ci := 6) (q := 895) dL_law_892 mv_X6_comes kL_L_104 rfl (by decide) rfl ⟨by decide, by decide⟩ (Nat.le_of_ble_eq_true rfl) ⟨by decide, by decide⟩ rfl (c_X6_comes hA9 (hF1 _)) (fun v8 S8 iv8 hp => ?_)
  rw [hE] at hp
  obtain ⟨rfl, rfl, b2, hL9⟩ := hp
  refine J.icmp_eq_same (tgt := 1692) (q := 898) dL_law_895 rfl rfl ?_
  exact hK iv8 (hV.go b1 hC9 b2 hL9 (ai_comes hV.2.1))

theorem ai_kindFor {A : Mm} (hA : AI A) {a0 : Int} : AI (an_kindFor A a0).2 := by
  unfold an_kindFor
  repeat' split
  all_goals exact hA
set_option maxRecDepth 100000 in
set_option maxHeartbeats 4000000 in
theorem law_22 {l : Launch} {F : Nat × (Int → Int)} {iv : Mm} {i : Int} {P : Option VT → Shp → Mm → Prop} (hF0 : F.1 < 65536) (hF1 : ∀ j, -2147483648 ≤ F.2 j ∧ F.2 j < 2147483648) (hi0 : 0 ≤ i) (hi6 : i + 6 ≤ F.1) (hV : LV iv) (hK : ∀ iv2, LV iv2 → J l (yL_law).cls cL_law 4 (some FieldType.boolean) 14 78 7462 false F P 78 7462 1692 [some (r_ 1000), some (r_ 0), some (r_ 61), some (i_ i)] [] S0 iv2) : J l (yL_law).cls cL_law 4 (some FieldType.boolean) 14 78 7462 false F (P) 78 7462 900 [some (r_ 1000), some (r_ 0), some (r_ 61), some (i_ i)] [] S0 (iv) := by
  refine J.aload_n (q := 901) dL_law_900 rfl ?_ rfl
  refine J.aload_n (q := 902) dL_law_901 rfl ?_ rfl
  refine J.iload_n (q := 903) dL_law_902 rfl ?_ rfl
  refine J.iconst (q := 904) dL_law_903 ?_ rfl
  refine J.iadd (q := 905) dL_law_904 ?_ rfl
  refine J.sld (q := 906) dL_law_905 (by omega) hF0 ?_ rfl
  refine J.callV1 (ci := 5) (q := 909) dL_law_906 mv_X5_kindFor kL_L_105 rfl (by decide) rfl ⟨by decide, by decide⟩ (Nat.le_of_ble_eq_true rfl) ⟨by decide, by decide⟩ rfl (c_X5_kindFor hV.1 hV.2.1 (hF1 _)) (fun v9 S9 iv9 hp => ?_)
  obtain ⟨rfl, rfl, b1, hC9⟩ := hp
  have hE := hi_eq b1
  have hA9 : AI iv9 := by
    have h := hV.2.1
    rw [← hE] at h
    exact h
  refine J.aload_n (q := 910) dL_law_909 rfl ?_ rfl
  refine J.aload_n (q := 911) dL_law_910 rfl ?_ rfl
  refine J.iload_n (q := 912) dL_law_911 rfl ?_ rfl
  refine J.iconst (q := 913) dL_law_912 ?_ rfl
  refine J.iadd (q := 914) dL_law_913 ?_ rfl
  refine J.sld (q := 915) dL_law_914 (by omega) hF0 ?_ rfl
  refine J.callV1 (ci := 6) (q := 918) dL_law_915 mv_X6_kindFor kL_L_108 rfl (by decide) rfl ⟨by decide, by decide⟩ (Nat.le_of_ble_eq_true rfl) ⟨by decide, by decide⟩ rfl (c_X6_kindFor hA9 (hF1 _)) (fun v8 S8 iv8 hp => ?_)
  rw [hE] at hp
  obtain ⟨rfl, rfl, b2, hL9⟩ := hp
  refine J.icmp_eq_same (tgt := 1692) (q := 921) dL_law_918 rfl rfl ?_
  exact hK iv8 (hV.go b1 hC9 b2 hL9 (ai_kindFor hV.2.1))

theorem ai_overtakes {A : Mm} (hA : AI A) {a0 a1 : Int} : AI (an_overtakes A a0 a1).2 := by
  unfold an_overtakes
  repeat' split
  all_goals exact hA
set_option maxRecDepth 100000 in
set_option maxHeartbeats 4000000 in
theorem law_23 {l : Launch} {F : Nat × (Int → Int)} {iv : Mm} {i : Int} {P : Option VT → Shp → Mm → Prop} (hF0 : F.1 < 65536) (hF1 : ∀ j, -2147483648 ≤ F.2 j ∧ F.2 j < 2147483648) (hi0 : 0 ≤ i) (hi6 : i + 6 ≤ F.1) (hV : LV iv) (hK : ∀ iv2, LV iv2 → J l (yL_law).cls cL_law 4 (some FieldType.boolean) 14 78 7462 false F P 78 7462 1692 [some (r_ 1000), some (r_ 0), some (r_ 61), some (i_ i)] [] S0 iv2) : J l (yL_law).cls cL_law 4 (some FieldType.boolean) 14 78 7462 false F (P) 78 7462 923 [some (r_ 1000), some (r_ 0), some (r_ 61), some (i_ i)] [] S0 (iv) := by
  refine J.aload_n (q := 924) dL_law_923 rfl ?_ rfl
  refine J.aload_n (q := 925) dL_law_924 rfl ?_ rfl
  refine J.iload_n (q := 926) dL_law_925 rfl ?_ rfl
  refine J.iconst (q := 927) dL_law_926 ?_ rfl
  refine J.iadd (q := 928) dL_law_927 ?_ rfl
  refine J.sld (q := 929) dL_law_928 (by omega) hF0 ?_ rfl
  refine J.aload_n (q := 930) dL_law_929 rfl ?_ rfl
  refine J.iload_n (q := 931) dL_law_930 rfl ?_ rfl
  refine J.iconst (q := 932) dL_law_931 ?_ rfl
  refine J.iadd (q := 933) dL_law_932 ?_ rfl
  refine J.sld (q := 934) dL_law_933 (by omega) hF0 ?_ rfl
  refine J.callV2 (ci := 5) (q := 937) dL_law_934 mv_X5_overtakes kL_L_109 rfl (by decide) rfl ⟨by decide, by decide⟩ (Nat.le_of_ble_eq_true rfl) ⟨by decide, by decide⟩ rfl (c_X5_overtakes hV.1 hV.2.1 (hF1 _) (hF1 _)) (fun v9 S9 iv9 hp => ?_)
  obtain ⟨rfl, rfl, b1, hC9⟩ := hp
  have hE := hi_eq b1
  have hA9 : AI iv9 := by
    have h := hV.2.1
    rw [← hE] at h
    exact h
  refine J.aload_n (q := 938) dL_law_937 rfl ?_ rfl
  refine J.aload_n (q := 939) dL_law_938 rfl ?_ rfl
  refine J.iload_n (q := 940) dL_law_939 rfl ?_ rfl
  refine J.iconst (q := 941) dL_law_940 ?_ rfl
  refine J.iadd (q := 942) dL_law_941 ?_ rfl
  refine J.sld (q := 943) dL_law_942 (by omega) hF0 ?_ rfl
  refine J.aload_n (q := 944) dL_law_943 rfl ?_ rfl
  refine J.iload_n (q := 945) dL_law_944 rfl ?_ rfl
  refine J.iconst (q := 946) dL_law_945 ?_ rfl
  refine J.iadd (q := 947) dL_law_946 ?_ rfl
  refine J.sld (q := 948) dL_law_947 (by omega) hF0 ?_ rfl
  refine J.callV2 (ci := 6) (q := 951) dL_law_948 mv_X6_overtakes kL_L_112 rfl (by decide) rfl ⟨by decide, by decide⟩ (Nat.le_of_ble_eq_true rfl) ⟨by decide, by decide⟩ rfl (c_X6_overtakes hA9 (hF1 _) (hF1 _)) (fun v8 S8 iv8 hp => ?_)
  rw [hE] at hp
  obtain ⟨rfl, rfl, b2, hL9⟩ := hp
  refine J.icmp_eq_same (tgt := 1692) (q := 954) dL_law_951 rfl rfl ?_
  exact hK iv8 (hV.go b1 hC9 b2 hL9 (ai_overtakes hV.2.1))

theorem ai_lag {A : Mm} (hA : AI A) {a0 a1 a2 : Int} : AI (an_lag A a0 a1 a2).2 := by
  unfold an_lag
  repeat' split
  all_goals exact hA
set_option maxRecDepth 100000 in
set_option maxHeartbeats 4000000 in
theorem law_24 {l : Launch} {F : Nat × (Int → Int)} {iv : Mm} {i : Int} {P : Option VT → Shp → Mm → Prop} (hF0 : F.1 < 65536) (hF1 : ∀ j, -2147483648 ≤ F.2 j ∧ F.2 j < 2147483648) (hi0 : 0 ≤ i) (hi6 : i + 6 ≤ F.1) (hV : LV iv) (hK : ∀ iv2, LV iv2 → J l (yL_law).cls cL_law 4 (some FieldType.boolean) 14 78 7462 false F P 78 7462 1692 [some (r_ 1000), some (r_ 0), some (r_ 61), some (i_ i)] [] S0 iv2) : J l (yL_law).cls cL_law 4 (some FieldType.boolean) 14 78 7462 false F (P) 78 7462 956 [some (r_ 1000), some (r_ 0), some (r_ 61), some (i_ i)] [] S0 (iv) := by
  refine J.aload_n (q := 957) dL_law_956 rfl ?_ rfl
  refine J.aload_n (q := 958) dL_law_957 rfl ?_ rfl
  refine J.iload_n (q := 959) dL_law_958 rfl ?_ rfl
  refine J.iconst (q := 960) dL_law_959 ?_ rfl
  refine J.iadd (q := 961) dL_law_960 ?_ rfl
  refine J.sld (q := 962) dL_law_961 (by omega) hF0 ?_ rfl
  refine J.aload_n (q := 963) dL_law_962 rfl ?_ rfl
  refine J.iload_n (q := 964) dL_law_963 rfl ?_ rfl
  refine J.iconst (q := 965) dL_law_964 ?_ rfl
  refine J.iadd (q := 966) dL_law_965 ?_ rfl
  refine J.sld (q := 967) dL_law_966 (by omega) hF0 ?_ rfl
  refine J.aload_n (q := 968) dL_law_967 rfl ?_ rfl
  refine J.iload_n (q := 969) dL_law_968 rfl ?_ rfl
  refine J.iconst (q := 970) dL_law_969 ?_ rfl
  refine J.iadd (q := 971) dL_law_970 ?_ rfl
  refine J.sld (q := 972) dL_law_971 (by omega) hF0 ?_ rfl
  refine J.callV3 (ci := 5) (q := 975) dL_law_972 mv_X5_lag kL_L_113 rfl (by decide) rfl ⟨by decide, by decide⟩ (Nat.le_of_ble_eq_true rfl) ⟨by decide, by decide⟩ rfl (c_X5_lag hV.1 hV.2.1 (hF1 _) (hF1 _) (hF1 _)) (fun v9 S9 iv9 hp => ?_)
  obtain ⟨rfl, rfl, b1, hC9⟩ := hp
  have hE := hi_eq b1
  have hA9 : AI iv9 := by
    have h := hV.2.1
    rw [← hE] at h
    exact h
  refine J.aload_n (q := 976) dL_law_975 rfl ?_ rfl
  refine J.aload_n (q := 977) dL_law_976 rfl ?_ rfl
  refine J.iload_n (q := 978) dL_law_977 rfl ?_ rfl
  refine J.iconst (q := 979) dL_law_978 ?_ rfl
  refine J.iadd (q := 980) dL_law_979 ?_ rfl
  refine J.sld (q := 981) dL_law_980 (by omega) hF0 ?_ rfl
  refine J.aload_n (q := 982) dL_law_981 rfl ?_ rfl
  refine J.iload_n (q := 983) dL_law_982 rfl ?_ rfl
  refine J.iconst (q := 984) dL_law_983 ?_ rfl
  refine J.iadd (q := 985) dL_law_984 ?_ rfl
  refine J.sld (q := 986) dL_law_985 (by omega) hF0 ?_ rfl
  refine J.aload_n (q := 987) dL_law_986 rfl ?_ rfl
  refine J.iload_n (q := 988) dL_law_987 rfl ?_ rfl
  refine J.iconst (q := 989) dL_law_988 ?_ rfl
  refine J.iadd (q := 990) dL_law_989 ?_ rfl
  refine J.sld (q := 991) dL_law_990 (by omega) hF0 ?_ rfl
  refine J.callV3 (ci := 6) (q := 994) dL_law_991 mv_X6_lag kL_L_116 rfl (by decide) rfl ⟨by decide, by decide⟩ (Nat.le_of_ble_eq_true rfl) ⟨by decide, by decide⟩ rfl (c_X6_lag hA9 (hF1 _) (hF1 _) (hF1 _)) (fun v8 S8 iv8 hp => ?_)
  rw [hE] at hp
  obtain ⟨rfl, rfl, b2, hL9⟩ := hp
  refine J.icmp_eq_same (tgt := 1692) (q := 997) dL_law_994 rfl rfl ?_
  exact hK iv8 (hV.go b1 hC9 b2 hL9 (ai_lag hV.2.1))

theorem ai_clash {A : Mm} (hA : AI A) {a0 : Int} : AI (an_clash A a0).2 := by
  unfold an_clash
  repeat' split
  all_goals exact hA
set_option maxRecDepth 100000 in
set_option maxHeartbeats 4000000 in
theorem law_25 {l : Launch} {F : Nat × (Int → Int)} {iv : Mm} {i : Int} {P : Option VT → Shp → Mm → Prop} (hF0 : F.1 < 65536) (hF1 : ∀ j, -2147483648 ≤ F.2 j ∧ F.2 j < 2147483648) (hi0 : 0 ≤ i) (hi6 : i + 6 ≤ F.1) (hV : LV iv) (hK : ∀ iv2, LV iv2 → J l (yL_law).cls cL_law 4 (some FieldType.boolean) 14 78 7462 false F P 78 7462 1692 [some (r_ 1000), some (r_ 0), some (r_ 61), some (i_ i)] [] S0 iv2) : J l (yL_law).cls cL_law 4 (some FieldType.boolean) 14 78 7462 false F (P) 78 7462 999 [some (r_ 1000), some (r_ 0), some (r_ 61), some (i_ i)] [] S0 (iv) := by
  refine J.aload_n (q := 1000) dL_law_999 rfl ?_ rfl
  refine J.aload_n (q := 1001) dL_law_1000 rfl ?_ rfl
  refine J.iload_n (q := 1002) dL_law_1001 rfl ?_ rfl
  refine J.iconst (q := 1003) dL_law_1002 ?_ rfl
  refine J.iadd (q := 1004) dL_law_1003 ?_ rfl
  refine J.sld (q := 1005) dL_law_1004 (by omega) hF0 ?_ rfl
  refine J.callV1 (ci := 5) (q := 1008) dL_law_1005 mv_X5_clash kL_L_117 rfl (by decide) rfl ⟨by decide, by decide⟩ (Nat.le_of_ble_eq_true rfl) ⟨by decide, by decide⟩ rfl (c_X5_clash hV.1 hV.2.1 (hF1 _)) (fun v9 S9 iv9 hp => ?_)
  obtain ⟨rfl, rfl, b1, hC9⟩ := hp
  have hE := hi_eq b1
  have hA9 : AI iv9 := by
    have h := hV.2.1
    rw [← hE] at h
    exact h
  refine J.aload_n (q := 1009) dL_law_1008 rfl ?_ rfl
  refine J.aload_n (q := 1010) dL_law_1009 rfl ?_ rfl
  refine J.iload_n (q := 1011) dL_law_1010 rfl ?_ rfl
  refine J.iconst (q := 1012) dL_law_1011 ?_ rfl
  refine J.iadd (q := 1013) dL_law_1012 ?_ rfl
  refine J.sld (q := 1014) dL_law_1013 (by omega) hF0 ?_ rfl
  refine J.callV1 (ci := 6) (q := 1017) dL_law_1014 mv_X6_clash kL_L_120 rfl (by decide) rfl ⟨by decide, by decide⟩ (Nat.le_of_ble_eq_true rfl) ⟨by decide, by decide⟩ rfl (c_X6_clash hA9 (hF1 _)) (fun v8 S8 iv8 hp => ?_)
  rw [hE] at hp
  obtain ⟨rfl, rfl, b2, hL9⟩ := hp
  refine J.icmp_eq_same (tgt := 1692) (q := 1020) dL_law_1017 rfl rfl ?_
  exact hK iv8 (hV.go b1 hC9 b2 hL9 (ai_clash hV.2.1))

theorem ai_release {A : Mm} (hA : AI A) {a0 a1 a2 : Int} : AI (an_release A a0 a1 a2).2 := by
  unfold an_release
  repeat' split
  all_goals exact hA
set_option maxRecDepth 100000 in
set_option maxHeartbeats 4000000 in
theorem law_26 {l : Launch} {F : Nat × (Int → Int)} {iv : Mm} {i : Int} {P : Option VT → Shp → Mm → Prop} (hF0 : F.1 < 65536) (hF1 : ∀ j, -2147483648 ≤ F.2 j ∧ F.2 j < 2147483648) (hi0 : 0 ≤ i) (hi6 : i + 6 ≤ F.1) (hV : LV iv) (hK : ∀ iv2, LV iv2 → J l (yL_law).cls cL_law 4 (some FieldType.boolean) 14 78 7462 false F P 78 7462 1692 [some (r_ 1000), some (r_ 0), some (r_ 61), some (i_ i)] [] S0 iv2) : J l (yL_law).cls cL_law 4 (some FieldType.boolean) 14 78 7462 false F (P) 78 7462 1022 [some (r_ 1000), some (r_ 0), some (r_ 61), some (i_ i)] [] S0 (iv) := by
  refine J.aload_n (q := 1023) dL_law_1022 rfl ?_ rfl
  refine J.aload_n (q := 1024) dL_law_1023 rfl ?_ rfl
  refine J.iload_n (q := 1025) dL_law_1024 rfl ?_ rfl
  refine J.iconst (q := 1026) dL_law_1025 ?_ rfl
  refine J.iadd (q := 1027) dL_law_1026 ?_ rfl
  refine J.sld (q := 1028) dL_law_1027 (by omega) hF0 ?_ rfl
  refine J.aload_n (q := 1029) dL_law_1028 rfl ?_ rfl
  refine J.iload_n (q := 1030) dL_law_1029 rfl ?_ rfl
  refine J.iconst (q := 1031) dL_law_1030 ?_ rfl
  refine J.iadd (q := 1032) dL_law_1031 ?_ rfl
  refine J.sld (q := 1033) dL_law_1032 (by omega) hF0 ?_ rfl
  refine J.aload_n (q := 1034) dL_law_1033 rfl ?_ rfl
  refine J.iload_n (q := 1035) dL_law_1034 rfl ?_ rfl
  refine J.iconst (q := 1036) dL_law_1035 ?_ rfl
  refine J.iadd (q := 1037) dL_law_1036 ?_ rfl
  refine J.sld (q := 1038) dL_law_1037 (by omega) hF0 ?_ rfl
  refine J.callV3 (ci := 5) (q := 1041) dL_law_1038 mv_X5_release kL_L_121 rfl (by decide) rfl ⟨by decide, by decide⟩ (Nat.le_of_ble_eq_true rfl) ⟨by decide, by decide⟩ rfl (c_X5_release hV.1 hV.2.1 (hF1 _) (hF1 _) (hF1 _)) (fun v9 S9 iv9 hp => ?_)
  obtain ⟨rfl, rfl, b1, hC9⟩ := hp
  have hE := hi_eq b1
  have hA9 : AI iv9 := by
    have h := hV.2.1
    rw [← hE] at h
    exact h
  refine J.aload_n (q := 1042) dL_law_1041 rfl ?_ rfl
  refine J.aload_n (q := 1043) dL_law_1042 rfl ?_ rfl
  refine J.iload_n (q := 1044) dL_law_1043 rfl ?_ rfl
  refine J.iconst (q := 1045) dL_law_1044 ?_ rfl
  refine J.iadd (q := 1046) dL_law_1045 ?_ rfl
  refine J.sld (q := 1047) dL_law_1046 (by omega) hF0 ?_ rfl
  refine J.aload_n (q := 1048) dL_law_1047 rfl ?_ rfl
  refine J.iload_n (q := 1049) dL_law_1048 rfl ?_ rfl
  refine J.iconst (q := 1050) dL_law_1049 ?_ rfl
  refine J.iadd (q := 1051) dL_law_1050 ?_ rfl
  refine J.sld (q := 1052) dL_law_1051 (by omega) hF0 ?_ rfl
  refine J.aload_n (q := 1053) dL_law_1052 rfl ?_ rfl
  refine J.iload_n (q := 1054) dL_law_1053 rfl ?_ rfl
  refine J.iconst (q := 1055) dL_law_1054 ?_ rfl
  refine J.iadd (q := 1056) dL_law_1055 ?_ rfl
  refine J.sld (q := 1057) dL_law_1056 (by omega) hF0 ?_ rfl
  refine J.callV3 (ci := 6) (q := 1060) dL_law_1057 mv_X6_release kL_L_124 rfl (by decide) rfl ⟨by decide, by decide⟩ (Nat.le_of_ble_eq_true rfl) ⟨by decide, by decide⟩ rfl (c_X6_release hA9 (hF1 _) (hF1 _) (hF1 _)) (fun v8 S8 iv8 hp => ?_)
  rw [hE] at hp
  obtain ⟨rfl, rfl, b2, hL9⟩ := hp
  refine J.icmp_eq_same (tgt := 1692) (q := 1063) dL_law_1060 rfl rfl ?_
  exact hK iv8 (hV.go b1 hC9 b2 hL9 (ai_release hV.2.1))

theorem ai_costs {A : Mm} (hA : AI A) {a0 a1 a2 : Int} : AI (an_costs A a0 a1 a2).2 := by
  unfold an_costs
  repeat' split
  all_goals exact hA
set_option maxRecDepth 100000 in
set_option maxHeartbeats 4000000 in
theorem law_27 {l : Launch} {F : Nat × (Int → Int)} {iv : Mm} {i : Int} {P : Option VT → Shp → Mm → Prop} (hF0 : F.1 < 65536) (hF1 : ∀ j, -2147483648 ≤ F.2 j ∧ F.2 j < 2147483648) (hi0 : 0 ≤ i) (hi6 : i + 6 ≤ F.1) (hV : LV iv) (hK : ∀ iv2, LV iv2 → J l (yL_law).cls cL_law 4 (some FieldType.boolean) 14 78 7462 false F P 78 7462 1692 [some (r_ 1000), some (r_ 0), some (r_ 61), some (i_ i)] [] S0 iv2) : J l (yL_law).cls cL_law 4 (some FieldType.boolean) 14 78 7462 false F (P) 78 7462 1065 [some (r_ 1000), some (r_ 0), some (r_ 61), some (i_ i)] [] S0 (iv) := by
  refine J.aload_n (q := 1066) dL_law_1065 rfl ?_ rfl
  refine J.aload_n (q := 1067) dL_law_1066 rfl ?_ rfl
  refine J.iload_n (q := 1068) dL_law_1067 rfl ?_ rfl
  refine J.iconst (q := 1069) dL_law_1068 ?_ rfl
  refine J.iadd (q := 1070) dL_law_1069 ?_ rfl
  refine J.sld (q := 1071) dL_law_1070 (by omega) hF0 ?_ rfl
  refine J.aload_n (q := 1072) dL_law_1071 rfl ?_ rfl
  refine J.iload_n (q := 1073) dL_law_1072 rfl ?_ rfl
  refine J.iconst (q := 1074) dL_law_1073 ?_ rfl
  refine J.iadd (q := 1075) dL_law_1074 ?_ rfl
  refine J.sld (q := 1076) dL_law_1075 (by omega) hF0 ?_ rfl
  refine J.aload_n (q := 1077) dL_law_1076 rfl ?_ rfl
  refine J.iload_n (q := 1078) dL_law_1077 rfl ?_ rfl
  refine J.iconst (q := 1079) dL_law_1078 ?_ rfl
  refine J.iadd (q := 1080) dL_law_1079 ?_ rfl
  refine J.sld (q := 1081) dL_law_1080 (by omega) hF0 ?_ rfl
  refine J.callV3 (ci := 5) (q := 1084) dL_law_1081 mv_X5_costs kL_L_125 rfl (by decide) rfl ⟨by decide, by decide⟩ (Nat.le_of_ble_eq_true rfl) ⟨by decide, by decide⟩ rfl (c_X5_costs hV.1 hV.2.1 (hF1 _) (hF1 _) (hF1 _)) (fun v9 S9 iv9 hp => ?_)
  obtain ⟨rfl, rfl, b1, hC9⟩ := hp
  have hE := hi_eq b1
  have hA9 : AI iv9 := by
    have h := hV.2.1
    rw [← hE] at h
    exact h
  refine J.aload_n (q := 1085) dL_law_1084 rfl ?_ rfl
  refine J.aload_n (q := 1086) dL_law_1085 rfl ?_ rfl
  refine J.iload_n (q := 1087) dL_law_1086 rfl ?_ rfl
  refine J.iconst (q := 1088) dL_law_1087 ?_ rfl
  refine J.iadd (q := 1089) dL_law_1088 ?_ rfl
  refine J.sld (q := 1090) dL_law_1089 (by omega) hF0 ?_ rfl
  refine J.aload_n (q := 1091) dL_law_1090 rfl ?_ rfl
  refine J.iload_n (q := 1092) dL_law_1091 rfl ?_ rfl
  refine J.iconst (q := 1093) dL_law_1092 ?_ rfl
  refine J.iadd (q := 1094) dL_law_1093 ?_ rfl
  refine J.sld (q := 1095) dL_law_1094 (by omega) hF0 ?_ rfl
  refine J.aload_n (q := 1096) dL_law_1095 rfl ?_ rfl
  refine J.iload_n (q := 1097) dL_law_1096 rfl ?_ rfl
  refine J.iconst (q := 1098) dL_law_1097 ?_ rfl
  refine J.iadd (q := 1099) dL_law_1098 ?_ rfl
  refine J.sld (q := 1100) dL_law_1099 (by omega) hF0 ?_ rfl
  refine J.callV3 (ci := 6) (q := 1103) dL_law_1100 mv_X6_costs kL_L_128 rfl (by decide) rfl ⟨by decide, by decide⟩ (Nat.le_of_ble_eq_true rfl) ⟨by decide, by decide⟩ rfl (c_X6_costs hA9 (hF1 _) (hF1 _) (hF1 _)) (fun v8 S8 iv8 hp => ?_)
  rw [hE] at hp
  obtain ⟨rfl, rfl, b2, hL9⟩ := hp
  refine J.icmp_eq_same (tgt := 1692) (q := 1106) dL_law_1103 rfl rfl ?_
  exact hK iv8 (hV.go b1 hC9 b2 hL9 (ai_costs hV.2.1))

theorem ai_farthest {A : Mm} (hA : AI A) {a0 a1 : Int} : AI (an_farthest A a0 a1).2 := by
  unfold an_farthest
  repeat' split
  all_goals exact hA
set_option maxRecDepth 100000 in
set_option maxHeartbeats 4000000 in
theorem law_28 {l : Launch} {F : Nat × (Int → Int)} {iv : Mm} {i : Int} {P : Option VT → Shp → Mm → Prop} (hF0 : F.1 < 65536) (hF1 : ∀ j, -2147483648 ≤ F.2 j ∧ F.2 j < 2147483648) (hi0 : 0 ≤ i) (hi6 : i + 6 ≤ F.1) (hV : LV iv) (hK : ∀ iv2, LV iv2 → J l (yL_law).cls cL_law 4 (some FieldType.boolean) 14 78 7462 false F P 78 7462 1692 [some (r_ 1000), some (r_ 0), some (r_ 61), some (i_ i)] [] S0 iv2) : J l (yL_law).cls cL_law 4 (some FieldType.boolean) 14 78 7462 false F (P) 78 7462 1108 [some (r_ 1000), some (r_ 0), some (r_ 61), some (i_ i)] [] S0 (iv) := by
  refine J.aload_n (q := 1109) dL_law_1108 rfl ?_ rfl
  refine J.aload_n (q := 1110) dL_law_1109 rfl ?_ rfl
  refine J.iload_n (q := 1111) dL_law_1110 rfl ?_ rfl
  refine J.iconst (q := 1112) dL_law_1111 ?_ rfl
  refine J.iadd (q := 1113) dL_law_1112 ?_ rfl
  refine J.sld (q := 1114) dL_law_1113 (by omega) hF0 ?_ rfl
  refine J.aload_n (q := 1115) dL_law_1114 rfl ?_ rfl
  refine J.iload_n (q := 1116) dL_law_1115 rfl ?_ rfl
  refine J.iconst (q := 1117) dL_law_1116 ?_ rfl
  refine J.iadd (q := 1118) dL_law_1117 ?_ rfl
  refine J.sld (q := 1119) dL_law_1118 (by omega) hF0 ?_ rfl
  refine J.callV2 (ci := 5) (q := 1122) dL_law_1119 mv_X5_farthest kL_L_129 rfl (by decide) rfl ⟨by decide, by decide⟩ (Nat.le_of_ble_eq_true rfl) ⟨by decide, by decide⟩ rfl (c_X5_farthest hV.1 hV.2.1 (hF1 _) (hF1 _)) (fun v9 S9 iv9 hp => ?_)
  obtain ⟨rfl, rfl, b1, hC9⟩ := hp
  have hE := hi_eq b1
  have hA9 : AI iv9 := by
    have h := hV.2.1
    rw [← hE] at h
    exact h
  refine J.aload_n (q := 1123) dL_law_1122 rfl ?_ rfl
  refine J.aload_n (q := 1124) dL_law_1123 rfl ?_ rfl
  refine J.iload_n (q := 1125) dL_law_1124 rfl ?_ rfl
  refine J.iconst (q := 1126) dL_law_1125 ?_ rfl
  refine J.iadd (q := 1127) dL_law_1126 ?_ rfl
  refine J.sld (q := 1128) dL_law_1127 (by omega) hF0 ?_ rfl
  refine J.aload_n (q := 1129) dL_law_1128 rfl ?_ rfl
  refine J.iload_n (q := 1130) dL_law_1129 rfl ?_ rfl
  refine J.iconst (q := 1131) dL_law_1130 ?_ rfl
  refine J.iadd (q := 1132) dL_law_1131 ?_ rfl
  refine J.sld (q := 1133) dL_law_1132 (by omega) hF0 ?_ rfl
  refine J.callV2 (ci := 6) (q := 1136) dL_law_1133 mv_X6_farthest kL_L_132 rfl (by decide) rfl ⟨by decide, by decide⟩ (Nat.le_of_ble_eq_true rfl) ⟨by decide, by decide⟩ rfl (c_X6_farthest hA9 (hF1 _) (hF1 _)) (fun v8 S8 iv8 hp => ?_)
  rw [hE] at hp
  obtain ⟨rfl, rfl, b2, hL9⟩ := hp
  refine J.icmp_eq_same (tgt := 1692) (q := 1139) dL_law_1136 rfl rfl ?_
  exact hK iv8 (hV.go b1 hC9 b2 hL9 (ai_farthest hV.2.1))

theorem ai_fits {A : Mm} (hA : AI A) {a0 a1 : Int} : AI (an_fits A a0 a1).2 := by
  unfold an_fits
  repeat' split
  all_goals exact hA
set_option maxRecDepth 100000 in
set_option maxHeartbeats 4000000 in
theorem law_29 {l : Launch} {F : Nat × (Int → Int)} {iv : Mm} {i : Int} {P : Option VT → Shp → Mm → Prop} (hF0 : F.1 < 65536) (hF1 : ∀ j, -2147483648 ≤ F.2 j ∧ F.2 j < 2147483648) (hi0 : 0 ≤ i) (hi6 : i + 6 ≤ F.1) (hV : LV iv) (hK : ∀ iv2, LV iv2 → J l (yL_law).cls cL_law 4 (some FieldType.boolean) 14 78 7462 false F P 78 7462 1692 [some (r_ 1000), some (r_ 0), some (r_ 61), some (i_ i)] [] S0 iv2) : J l (yL_law).cls cL_law 4 (some FieldType.boolean) 14 78 7462 false F (P) 78 7462 1141 [some (r_ 1000), some (r_ 0), some (r_ 61), some (i_ i)] [] S0 (iv) := by
  refine J.aload_n (q := 1142) dL_law_1141 rfl ?_ rfl
  refine J.aload_n (q := 1143) dL_law_1142 rfl ?_ rfl
  refine J.iload_n (q := 1144) dL_law_1143 rfl ?_ rfl
  refine J.iconst (q := 1145) dL_law_1144 ?_ rfl
  refine J.iadd (q := 1146) dL_law_1145 ?_ rfl
  refine J.sld (q := 1147) dL_law_1146 (by omega) hF0 ?_ rfl
  refine J.aload_n (q := 1148) dL_law_1147 rfl ?_ rfl
  refine J.iload_n (q := 1149) dL_law_1148 rfl ?_ rfl
  refine J.iconst (q := 1150) dL_law_1149 ?_ rfl
  refine J.iadd (q := 1151) dL_law_1150 ?_ rfl
  refine J.sld (q := 1152) dL_law_1151 (by omega) hF0 ?_ rfl
  refine J.callV2 (ci := 5) (q := 1155) dL_law_1152 mv_X5_fits kL_L_133 rfl (by decide) rfl ⟨by decide, by decide⟩ (Nat.le_of_ble_eq_true rfl) ⟨by decide, by decide⟩ rfl (c_X5_fits hV.1 hV.2.1 (hF1 _) (hF1 _)) (fun v9 S9 iv9 hp => ?_)
  obtain ⟨rfl, rfl, b1, hC9⟩ := hp
  have hE := hi_eq b1
  have hA9 : AI iv9 := by
    have h := hV.2.1
    rw [← hE] at h
    exact h
  refine J.aload_n (q := 1156) dL_law_1155 rfl ?_ rfl
  refine J.aload_n (q := 1157) dL_law_1156 rfl ?_ rfl
  refine J.iload_n (q := 1158) dL_law_1157 rfl ?_ rfl
  refine J.iconst (q := 1159) dL_law_1158 ?_ rfl
  refine J.iadd (q := 1160) dL_law_1159 ?_ rfl
  refine J.sld (q := 1161) dL_law_1160 (by omega) hF0 ?_ rfl
  refine J.aload_n (q := 1162) dL_law_1161 rfl ?_ rfl
  refine J.iload_n (q := 1163) dL_law_1162 rfl ?_ rfl
  refine J.iconst (q := 1164) dL_law_1163 ?_ rfl
  refine J.iadd (q := 1165) dL_law_1164 ?_ rfl
  refine J.sld (q := 1166) dL_law_1165 (by omega) hF0 ?_ rfl
  refine J.callV2 (ci := 6) (q := 1169) dL_law_1166 mv_X6_fits kL_L_136 rfl (by decide) rfl ⟨by decide, by decide⟩ (Nat.le_of_ble_eq_true rfl) ⟨by decide, by decide⟩ rfl (c_X6_fits hA9 (hF1 _) (hF1 _)) (fun v8 S8 iv8 hp => ?_)
  rw [hE] at hp
  obtain ⟨rfl, rfl, b2, hL9⟩ := hp
  refine J.icmp_eq_same (tgt := 1692) (q := 1172) dL_law_1169 rfl rfl ?_
  exact hK iv8 (hV.go b1 hC9 b2 hL9 (ai_fits hV.2.1))

theorem ai_began {A : Mm} (hA : AI A) {a0 a1 : Int} : AI (an_began A a0 a1).2 := by
  unfold an_began
  repeat' split
  all_goals exact hA
set_option maxRecDepth 100000 in
set_option maxHeartbeats 4000000 in
theorem law_30 {l : Launch} {F : Nat × (Int → Int)} {iv : Mm} {i : Int} {P : Option VT → Shp → Mm → Prop} (hF0 : F.1 < 65536) (hF1 : ∀ j, -2147483648 ≤ F.2 j ∧ F.2 j < 2147483648) (hi0 : 0 ≤ i) (hi6 : i + 6 ≤ F.1) (hV : LV iv) (hK : ∀ iv2, LV iv2 → J l (yL_law).cls cL_law 4 (some FieldType.boolean) 14 78 7462 false F P 78 7462 1692 [some (r_ 1000), some (r_ 0), some (r_ 61), some (i_ i)] [] S0 iv2) : J l (yL_law).cls cL_law 4 (some FieldType.boolean) 14 78 7462 false F (P) 78 7462 1174 [some (r_ 1000), some (r_ 0), some (r_ 61), some (i_ i)] [] S0 (iv) := by
  refine J.aload_n (q := 1175) dL_law_1174 rfl ?_ rfl
  refine J.aload_n (q := 1176) dL_law_1175 rfl ?_ rfl
  refine J.iload_n (q := 1177) dL_law_1176 rfl ?_ rfl
  refine J.iconst (q := 1178) dL_law_1177 ?_ rfl
  refine J.iadd (q := 1179) dL_law_1178 ?_ rfl
  refine J.sld (q := 1180) dL_law_1179 (by omega) hF0 ?_ rfl
  refine J.aload_n (q := 1181) dL_law_1180 rfl ?_ rfl
  refine J.iload_n (q := 1182) dL_law_1181 rfl ?_ rfl
  refine J.iconst (q := 1183) dL_law_1182 ?_ rfl
  refine J.iadd (q := 1184) dL_law_1183 ?_ rfl
  refine J.sld (q := 1185) dL_law_1184 (by omega) hF0 ?_ rfl
  refine J.callV2 (ci := 5) (q := 1188) dL_law_1185 mv_X5_began kL_L_137 rfl (by decide) rfl ⟨by decide, by decide⟩ (Nat.le_of_ble_eq_true rfl) ⟨by decide, by decide⟩ rfl (c_X5_began hV.1 hV.2.1 (hF1 _) (hF1 _)) (fun v9 S9 iv9 hp => ?_)
  obtain ⟨rfl, rfl, b1, hC9⟩ := hp
  have hE := hi_eq b1
  have hA9 : AI iv9 := by
    have h := hV.2.1
    rw [← hE] at h
    exact h
  refine J.aload_n (q := 1189) dL_law_1188 rfl ?_ rfl
  refine J.aload_n (q := 1190) dL_law_1189 rfl ?_ rfl
  refine J.iload_n (q := 1191) dL_law_1190 rfl ?_ rfl
  refine J.iconst (q := 1192) dL_law_1191 ?_ rfl
  refine J.iadd (q := 1193) dL_law_1192 ?_ rfl
  refine J.sld (q := 1194) dL_law_1193 (by omega) hF0 ?_ rfl
  refine J.aload_n (q := 1195) dL_law_1194 rfl ?_ rfl
  refine J.iload_n (q := 1196) dL_law_1195 rfl ?_ rfl
  refine J.iconst (q := 1197) dL_law_1196 ?_ rfl
  refine J.iadd (q := 1198) dL_law_1197 ?_ rfl
  refine J.sld (q := 1199) dL_law_1198 (by omega) hF0 ?_ rfl
  refine J.callV2 (ci := 6) (q := 1202) dL_law_1199 mv_X6_began kL_L_140 rfl (by decide) rfl ⟨by decide, by decide⟩ (Nat.le_of_ble_eq_true rfl) ⟨by decide, by decide⟩ rfl (c_X6_began hA9 (hF1 _) (hF1 _)) (fun v8 S8 iv8 hp => ?_)
  rw [hE] at hp
  obtain ⟨rfl, rfl, b2, hL9⟩ := hp
  refine J.icmp_eq_same (tgt := 1692) (q := 1205) dL_law_1202 rfl rfl ?_
  exact hK iv8 (hV.go b1 hC9 b2 hL9 (ai_began hV.2.1))

set_option maxRecDepth 100000 in
set_option maxHeartbeats 4000000 in
theorem law_31 {l : Launch} {F : Nat × (Int → Int)} {iv : Mm} {i : Int} {P : Option VT → Shp → Mm → Prop} (hF0 : F.1 < 65536) (hF1 : ∀ j, -2147483648 ≤ F.2 j ∧ F.2 j < 2147483648) (hi0 : 0 ≤ i) (hi6 : i + 6 ≤ F.1) (hV : LV iv) (hK : ∀ iv2, LV iv2 → J l (yL_law).cls cL_law 4 (some FieldType.boolean) 14 78 7462 false F P 78 7462 1692 [some (r_ 1000), some (r_ 0), some (r_ 61), some (i_ i)] [] S0 iv2) : J l (yL_law).cls cL_law 4 (some FieldType.boolean) 14 78 7462 false F (P) 78 7462 1207 [some (r_ 1000), some (r_ 0), some (r_ 61), some (i_ i)] [] S0 (iv) := by
  refine J.aload_n (q := 1208) dL_law_1207 rfl ?_ rfl
  refine J.aload_n (q := 1209) dL_law_1208 rfl ?_ rfl
  refine J.iload_n (q := 1210) dL_law_1209 rfl ?_ rfl
  refine J.iconst (q := 1211) dL_law_1210 ?_ rfl
  refine J.iadd (q := 1212) dL_law_1211 ?_ rfl
  refine J.sld (q := 1213) dL_law_1212 (by omega) hF0 ?_ rfl
  refine J.callV1 (ci := 5) (q := 1216) dL_law_1213 mv_X5_thrushes kL_L_141 rfl (by decide) rfl ⟨by decide, by decide⟩ (Nat.le_of_ble_eq_true rfl) ⟨by decide, by decide⟩ rfl (c_X5_thrushes hV.1 hV.2.1 (hF1 _)) (fun v9 S9 iv9 hp => ?_)
  obtain ⟨rfl, rfl, b1, hC9⟩ := hp
  have hE := hi_eq b1
  have hA9 : AI iv9 := by
    have h := hV.2.1
    rw [← hE] at h
    exact h
  refine J.aload_n (q := 1217) dL_law_1216 rfl ?_ rfl
  refine J.aload_n (q := 1218) dL_law_1217 rfl ?_ rfl
  refine J.iload_n (q := 1219) dL_law_1218 rfl ?_ rfl
  refine J.iconst (q := 1220) dL_law_1219 ?_ rfl
  refine J.iadd (q := 1221) dL_law_1220 ?_ rfl
  refine J.sld (q := 1222) dL_law_1221 (by omega) hF0 ?_ rfl
  refine J.callV1 (ci := 6) (q := 1225) dL_law_1222 mv_X6_thrushes kL_L_144 rfl (by decide) rfl ⟨by decide, by decide⟩ (Nat.le_of_ble_eq_true rfl) ⟨by decide, by decide⟩ rfl (c_X6_thrushes hA9 (hF1 _)) (fun v8 S8 iv8 hp => ?_)
  rw [hE] at hp
  obtain ⟨rfl, rfl, b2, hL9⟩ := hp
  refine J.icmp_eq_same (tgt := 1692) (q := 1228) dL_law_1225 rfl rfl ?_
  exact hK iv8 (hV.go b1 hC9 b2 hL9 (ai_thrushes hV.2.1))

theorem ai_alone {A : Mm} (hA : AI A) {a0 a1 : Int} : AI (an_alone A a0 a1).2 := by
  unfold an_alone
  repeat' split
  all_goals exact hA
set_option maxRecDepth 100000 in
set_option maxHeartbeats 4000000 in
theorem law_32 {l : Launch} {F : Nat × (Int → Int)} {iv : Mm} {i : Int} {P : Option VT → Shp → Mm → Prop} (hF0 : F.1 < 65536) (hF1 : ∀ j, -2147483648 ≤ F.2 j ∧ F.2 j < 2147483648) (hi0 : 0 ≤ i) (hi6 : i + 6 ≤ F.1) (hV : LV iv) (hK : ∀ iv2, LV iv2 → J l (yL_law).cls cL_law 4 (some FieldType.boolean) 14 78 7462 false F P 78 7462 1692 [some (r_ 1000), some (r_ 0), some (r_ 61), some (i_ i)] [] S0 iv2) : J l (yL_law).cls cL_law 4 (some FieldType.boolean) 14 78 7462 false F (P) 78 7462 1230 [some (r_ 1000), some (r_ 0), some (r_ 61), some (i_ i)] [] S0 (iv) := by
  refine J.aload_n (q := 1231) dL_law_1230 rfl ?_ rfl
  refine J.aload_n (q := 1232) dL_law_1231 rfl ?_ rfl
  refine J.iload_n (q := 1233) dL_law_1232 rfl ?_ rfl
  refine J.iconst (q := 1234) dL_law_1233 ?_ rfl
  refine J.iadd (q := 1235) dL_law_1234 ?_ rfl
  refine J.sld (q := 1236) dL_law_1235 (by omega) hF0 ?_ rfl
  refine J.aload_n (q := 1237) dL_law_1236 rfl ?_ rfl
  refine J.iload_n (q := 1238) dL_law_1237 rfl ?_ rfl
  refine J.iconst (q := 1239) dL_law_1238 ?_ rfl
  refine J.iadd (q := 1240) dL_law_1239 ?_ rfl
  refine J.sld (q := 1241) dL_law_1240 (by omega) hF0 ?_ rfl
  refine J.callV2 (ci := 5) (q := 1244) dL_law_1241 mv_X5_alone kL_L_145 rfl (by decide) rfl ⟨by decide, by decide⟩ (Nat.le_of_ble_eq_true rfl) ⟨by decide, by decide⟩ rfl (c_X5_alone hV.1 hV.2.1 (hF1 _) (hF1 _)) (fun v9 S9 iv9 hp => ?_)
  obtain ⟨rfl, rfl, b1, hC9⟩ := hp
  have hE := hi_eq b1
  have hA9 : AI iv9 := by
    have h := hV.2.1
    rw [← hE] at h
    exact h
  refine J.aload_n (q := 1245) dL_law_1244 rfl ?_ rfl
  refine J.aload_n (q := 1246) dL_law_1245 rfl ?_ rfl
  refine J.iload_n (q := 1247) dL_law_1246 rfl ?_ rfl
  refine J.iconst (q := 1248) dL_law_1247 ?_ rfl
  refine J.iadd (q := 1249) dL_law_1248 ?_ rfl
  refine J.sld (q := 1250) dL_law_1249 (by omega) hF0 ?_ rfl
  refine J.aload_n (q := 1251) dL_law_1250 rfl ?_ rfl
  refine J.iload_n (q := 1252) dL_law_1251 rfl ?_ rfl
  refine J.iconst (q := 1253) dL_law_1252 ?_ rfl
  refine J.iadd (q := 1254) dL_law_1253 ?_ rfl
  refine J.sld (q := 1255) dL_law_1254 (by omega) hF0 ?_ rfl
  refine J.callV2 (ci := 6) (q := 1258) dL_law_1255 mv_X6_alone kL_L_149 rfl (by decide) rfl ⟨by decide, by decide⟩ (Nat.le_of_ble_eq_true rfl) ⟨by decide, by decide⟩ rfl (c_X6_alone hA9 (hF1 _) (hF1 _)) (fun v8 S8 iv8 hp => ?_)
  rw [hE] at hp
  obtain ⟨rfl, rfl, b2, hL9⟩ := hp
  refine J.lcmp (q := 1259) (z := 0) dL_law_1258 (by unfold lg_cmp; rw [if_neg Int64.lt_irrefl, if_pos rfl]; rfl) ?_ rfl
  refine J.if_eq (tgt := 1692) (q := 1262) dL_law_1259 rfl rfl (fun c1259 => ?_) (fun c => absurd c (fun z => z rfl))
  exact hK iv8 (hV.go b1 hC9 b2 hL9 (ai_alone hV.2.1))

set_option maxRecDepth 100000 in
set_option maxHeartbeats 4000000 in
theorem law_33 {l : Launch} {F : Nat × (Int → Int)} {iv : Mm} {i : Int} {P : Option VT → Shp → Mm → Prop} (hF0 : F.1 < 65536) (hF1 : ∀ j, -2147483648 ≤ F.2 j ∧ F.2 j < 2147483648) (hi0 : 0 ≤ i) (hi6 : i + 6 ≤ F.1) (hV : LV iv) (hK : ∀ iv2, LV iv2 → J l (yL_law).cls cL_law 4 (some FieldType.boolean) 14 78 7462 false F P 78 7462 1692 [some (r_ 1000), some (r_ 0), some (r_ 61), some (i_ i)] [] S0 iv2) : J l (yL_law).cls cL_law 4 (some FieldType.boolean) 14 78 7462 false F (P) 78 7462 1264 [some (r_ 1000), some (r_ 0), some (r_ 61), some (i_ i)] [] S0 (iv) := by
  refine J.aload_n (q := 1265) dL_law_1264 rfl ?_ rfl
  refine J.aload_n (q := 1266) dL_law_1265 rfl ?_ rfl
  refine J.iload_n (q := 1267) dL_law_1266 rfl ?_ rfl
  refine J.iconst (q := 1268) dL_law_1267 ?_ rfl
  refine J.iadd (q := 1269) dL_law_1268 ?_ rfl
  refine J.sld (q := 1270) dL_law_1269 (by omega) hF0 ?_ rfl
  refine J.callV1 (ci := 5) (q := 1273) dL_law_1270 mv_X5_seed kL_L_150 rfl (by decide) rfl ⟨by decide, by decide⟩ (Nat.le_of_ble_eq_true rfl) ⟨by decide, by decide⟩ rfl (c_X5_seed hV.1 hV.2.1 (hF1 _)) (fun v9 S9 iv9 hp => ?_)
  obtain ⟨rfl, rfl, b1, hC9⟩ := hp
  have hE := hi_eq b1
  have hA9 : AI iv9 := by
    have h := hV.2.1
    rw [← hE] at h
    exact h
  refine J.aload_n (q := 1274) dL_law_1273 rfl ?_ rfl
  refine J.aload_n (q := 1275) dL_law_1274 rfl ?_ rfl
  refine J.iload_n (q := 1276) dL_law_1275 rfl ?_ rfl
  refine J.iconst (q := 1277) dL_law_1276 ?_ rfl
  refine J.iadd (q := 1278) dL_law_1277 ?_ rfl
  refine J.sld (q := 1279) dL_law_1278 (by omega) hF0 ?_ rfl
  refine J.callV1 (ci := 6) (q := 1282) dL_law_1279 mv_X6_seed kL_L_153 rfl (by decide) rfl ⟨by decide, by decide⟩ (Nat.le_of_ble_eq_true rfl) ⟨by decide, by decide⟩ rfl (c_X6_seed hA9 (hF1 _)) (fun v8 S8 iv8 hp => ?_)
  rw [hE] at hp
  obtain ⟨rfl, rfl, b2, hL9⟩ := hp
  refine J.icmp_eq_same (tgt := 1692) (q := 1285) dL_law_1282 rfl rfl ?_
  exact hK iv8 (hV.go b1 hC9 b2 hL9 (ai_seed hV.2.1))

set_option maxRecDepth 100000 in
set_option maxHeartbeats 4000000 in
theorem law_34 {l : Launch} {F : Nat × (Int → Int)} {iv : Mm} {i : Int} {P : Option VT → Shp → Mm → Prop} (hF0 : F.1 < 65536) (hF1 : ∀ j, -2147483648 ≤ F.2 j ∧ F.2 j < 2147483648) (hi0 : 0 ≤ i) (hi6 : i + 6 ≤ F.1) (hV : LV iv) (hK : ∀ iv2, LV iv2 → J l (yL_law).cls cL_law 4 (some FieldType.boolean) 14 78 7462 false F P 78 7462 1692 [some (r_ 1000), some (r_ 0), some (r_ 61), some (i_ i)] [] S0 iv2) : J l (yL_law).cls cL_law 4 (some FieldType.boolean) 14 78 7462 false F (P) 78 7462 1287 [some (r_ 1000), some (r_ 0), some (r_ 61), some (i_ i)] [] S0 (iv) := by
  refine J.aload_n (q := 1288) dL_law_1287 rfl ?_ rfl
  refine J.aload_n (q := 1289) dL_law_1288 rfl ?_ rfl
  refine J.iload_n (q := 1290) dL_law_1289 rfl ?_ rfl
  refine J.iconst (q := 1291) dL_law_1290 ?_ rfl
  refine J.iadd (q := 1292) dL_law_1291 ?_ rfl
  refine J.sld (q := 1293) dL_law_1292 (by omega) hF0 ?_ rfl
  refine J.aload_n (q := 1294) dL_law_1293 rfl ?_ rfl
  refine J.iload_n (q := 1295) dL_law_1294 rfl ?_ rfl
  refine J.iconst (q := 1296) dL_law_1295 ?_ rfl
  refine J.iadd (q := 1297) dL_law_1296 ?_ rfl
  refine J.sld (q := 1298) dL_law_1297 (by omega) hF0 ?_ rfl
  refine J.callV2 (ci := 5) (q := 1301) dL_law_1298 mv_X5_feed kL_L_154 rfl (by decide) rfl ⟨by decide, by decide⟩ (Nat.le_of_ble_eq_true rfl) ⟨by decide, by decide⟩ rfl (c_X5_feed hV.1 hV.2.1 (hF1 _) (hF1 _)) (fun v9 S9 iv9 hp => ?_)
  obtain ⟨rfl, rfl, b1, hC9⟩ := hp
  have hE := hi_eq b1
  have hA9 : AI iv9 := by
    have h := hV.2.1
    rw [← hE] at h
    exact h
  refine J.aload_n (q := 1302) dL_law_1301 rfl ?_ rfl
  refine J.aload_n (q := 1303) dL_law_1302 rfl ?_ rfl
  refine J.iload_n (q := 1304) dL_law_1303 rfl ?_ rfl
  refine J.iconst (q := 1305) dL_law_1304 ?_ rfl
  refine J.iadd (q := 1306) dL_law_1305 ?_ rfl
  refine J.sld (q := 1307) dL_law_1306 (by omega) hF0 ?_ rfl
  refine J.aload_n (q := 1308) dL_law_1307 rfl ?_ rfl
  refine J.iload_n (q := 1309) dL_law_1308 rfl ?_ rfl
  refine J.iconst (q := 1310) dL_law_1309 ?_ rfl
  refine J.iadd (q := 1311) dL_law_1310 ?_ rfl
  refine J.sld (q := 1312) dL_law_1311 (by omega) hF0 ?_ rfl
  refine J.callV2 (ci := 6) (q := 1315) dL_law_1312 mv_X6_feed kL_L_157 rfl (by decide) rfl ⟨by decide, by decide⟩ (Nat.le_of_ble_eq_true rfl) ⟨by decide, by decide⟩ rfl (c_X6_feed hA9 (hF1 _) (hF1 _)) (fun v8 S8 iv8 hp => ?_)
  rw [hE] at hp
  obtain ⟨rfl, rfl, b2, hL9⟩ := hp
  refine J.icmp_eq_same (tgt := 1692) (q := 1318) dL_law_1315 rfl rfl ?_
  exact hK iv8 (hV.go b1 hC9 b2 hL9 (ai_feed hV.2.1))

set_option maxRecDepth 100000 in
set_option maxHeartbeats 4000000 in
theorem law_35 {l : Launch} {F : Nat × (Int → Int)} {iv : Mm} {i : Int} {P : Option VT → Shp → Mm → Prop} (hF0 : F.1 < 65536) (hF1 : ∀ j, -2147483648 ≤ F.2 j ∧ F.2 j < 2147483648) (hi0 : 0 ≤ i) (hi6 : i + 6 ≤ F.1) (hV : LV iv) (hK : ∀ iv2, LV iv2 → J l (yL_law).cls cL_law 4 (some FieldType.boolean) 14 78 7462 false F P 78 7462 1692 [some (r_ 1000), some (r_ 0), some (r_ 61), some (i_ i)] [] S0 iv2) : J l (yL_law).cls cL_law 4 (some FieldType.boolean) 14 78 7462 false F (P) 78 7462 1320 [some (r_ 1000), some (r_ 0), some (r_ 61), some (i_ i)] [] S0 (iv) := by
  refine J.aload_n (q := 1321) dL_law_1320 rfl ?_ rfl
  refine J.callV0 (ci := 5) (q := 1324) dL_law_1321 mv_X5_wipe kL_L_158 rfl (by decide) rfl ⟨by decide, by decide⟩ (Nat.le_of_ble_eq_true rfl) ⟨by decide, by decide⟩ rfl (c_X5_wipe hV.1 hV.2.1 ) (fun v9 S9 iv9 hp => ?_)
  obtain ⟨rfl, rfl, b1, hC9⟩ := hp
  have hE := hi_eq b1
  have hA9 : AI iv9 := by
    have h := hV.2.1
    rw [← hE] at h
    exact h
  refine J.aload_n (q := 1325) dL_law_1324 rfl ?_ rfl
  refine J.callV0 (ci := 6) (q := 1328) dL_law_1325 mv_X6_wipe kL_L_161 rfl (by decide) rfl ⟨by decide, by decide⟩ (Nat.le_of_ble_eq_true rfl) ⟨by decide, by decide⟩ rfl (c_X6_wipe hA9 ) (fun v8 S8 iv8 hp => ?_)
  rw [hE] at hp
  obtain ⟨rfl, rfl, b2, hL9⟩ := hp
  refine J.icmp_eq_same (tgt := 1692) (q := 1331) dL_law_1328 rfl rfl ?_
  exact hK iv8 (hV.go b1 hC9 b2 hL9 (ai_wipe hV.2.1))

set_option maxRecDepth 100000 in
set_option maxHeartbeats 4000000 in
theorem law_36 {l : Launch} {F : Nat × (Int → Int)} {iv : Mm} {i : Int} {P : Option VT → Shp → Mm → Prop} (hF0 : F.1 < 65536) (hF1 : ∀ j, -2147483648 ≤ F.2 j ∧ F.2 j < 2147483648) (hi0 : 0 ≤ i) (hi6 : i + 6 ≤ F.1) (hV : LV iv) (hK : ∀ iv2, LV iv2 → J l (yL_law).cls cL_law 4 (some FieldType.boolean) 14 78 7462 false F P 78 7462 1692 [some (r_ 1000), some (r_ 0), some (r_ 61), some (i_ i)] [] S0 iv2) : J l (yL_law).cls cL_law 4 (some FieldType.boolean) 14 78 7462 false F (P) 78 7462 1333 [some (r_ 1000), some (r_ 0), some (r_ 61), some (i_ i)] [] S0 (iv) := by
  refine J.aload_n (q := 1334) dL_law_1333 rfl ?_ rfl
  refine J.callV0 (ci := 5) (q := 1337) dL_law_1334 mv_X5_text kL_L_162 rfl (by decide) rfl ⟨by decide, by decide⟩ (Nat.le_of_ble_eq_true rfl) ⟨by decide, by decide⟩ rfl (c_X5_text hV.1 hV.2.1 hV.2.2) (fun v9 S9 iv9 hp => ?_)
  obtain ⟨rfl, rfl, b1, hC9⟩ := hp
  have hE := hi_eq b1
  have hA9 : AI iv9 := by
    have h := hV.2.1
    rw [← hE] at h
    exact h
  have hW9 : WI (hi iv9) := by
    rw [hE]
    exact hV.2.2
  refine J.aload_n (q := 1338) dL_law_1337 rfl ?_ rfl
  refine J.callV0 (ci := 6) (q := 1341) dL_law_1338 mv_X6_text kL_L_165 rfl (by decide) rfl ⟨by decide, by decide⟩ (Nat.le_of_ble_eq_true rfl) ⟨by decide, by decide⟩ rfl (c_X6_text hA9 hW9.alph.1 hW9.alph.2.1 hW9.alph.2.2) (fun v8 S8 iv8 hp => ?_)
  rw [hE] at hp
  obtain ⟨rfl, rfl, b2, hL9⟩ := hp
  refine J.icmp_eq_same (tgt := 1692) (q := 1344) dL_law_1341 rfl rfl ?_
  exact hK iv8 (hV.go b1 hC9 b2 hL9 (ai_text hV.2.1))

set_option maxRecDepth 100000 in
set_option maxHeartbeats 4000000 in
theorem law_37 {l : Launch} {F : Nat × (Int → Int)} {iv : Mm} {i : Int} {P : Option VT → Shp → Mm → Prop} (hF0 : F.1 < 65536) (hF1 : ∀ j, -2147483648 ≤ F.2 j ∧ F.2 j < 2147483648) (hi0 : 0 ≤ i) (hi6 : i + 6 ≤ F.1) (hV : LV iv) (hK : ∀ iv2, LV iv2 → J l (yL_law).cls cL_law 4 (some FieldType.boolean) 14 78 7462 false F P 78 7462 1692 [some (r_ 1000), some (r_ 0), some (r_ 61), some (i_ i)] [] S0 iv2) : J l (yL_law).cls cL_law 4 (some FieldType.boolean) 14 78 7462 false F (P) 78 7462 1346 [some (r_ 1000), some (r_ 0), some (r_ 61), some (i_ i)] [] S0 (iv) := by
  refine J.aload_n (q := 1347) dL_law_1346 rfl ?_ rfl
  refine J.aload_n (q := 1348) dL_law_1347 rfl ?_ rfl
  refine J.iload_n (q := 1349) dL_law_1348 rfl ?_ rfl
  refine J.iconst (q := 1350) dL_law_1349 ?_ rfl
  refine J.iadd (q := 1351) dL_law_1350 ?_ rfl
  refine J.sld (q := 1352) dL_law_1351 (by omega) hF0 ?_ rfl
  refine J.aload_n (q := 1353) dL_law_1352 rfl ?_ rfl
  refine J.iload_n (q := 1354) dL_law_1353 rfl ?_ rfl
  refine J.iconst (q := 1355) dL_law_1354 ?_ rfl
  refine J.iadd (q := 1356) dL_law_1355 ?_ rfl
  refine J.sld (q := 1357) dL_law_1356 (by omega) hF0 ?_ rfl
  refine J.callV2 (ci := 5) (q := 1360) dL_law_1357 mv_X5_hold kL_L_166 rfl (by decide) rfl ⟨by decide, by decide⟩ (Nat.le_of_ble_eq_true rfl) ⟨by decide, by decide⟩ rfl (c_X5_hold hV.1 hV.2.1 (hF1 _) (hF1 _)) (fun v9 S9 iv9 hp => ?_)
  obtain ⟨rfl, rfl, b1, hC9⟩ := hp
  have hE := hi_eq b1
  have hA9 : AI iv9 := by
    have h := hV.2.1
    rw [← hE] at h
    exact h
  refine J.aload_n (q := 1361) dL_law_1360 rfl ?_ rfl
  refine J.aload_n (q := 1362) dL_law_1361 rfl ?_ rfl
  refine J.iload_n (q := 1363) dL_law_1362 rfl ?_ rfl
  refine J.iconst (q := 1364) dL_law_1363 ?_ rfl
  refine J.iadd (q := 1365) dL_law_1364 ?_ rfl
  refine J.sld (q := 1366) dL_law_1365 (by omega) hF0 ?_ rfl
  refine J.aload_n (q := 1367) dL_law_1366 rfl ?_ rfl
  refine J.iload_n (q := 1368) dL_law_1367 rfl ?_ rfl
  refine J.iconst (q := 1369) dL_law_1368 ?_ rfl
  refine J.iadd (q := 1370) dL_law_1369 ?_ rfl
  refine J.sld (q := 1371) dL_law_1370 (by omega) hF0 ?_ rfl
  refine J.callV2 (ci := 6) (q := 1374) dL_law_1371 mv_X6_hold kL_L_169 rfl (by decide) rfl ⟨by decide, by decide⟩ (Nat.le_of_ble_eq_true rfl) ⟨by decide, by decide⟩ rfl (c_X6_hold hA9 (hF1 _) (hF1 _)) (fun v8 S8 iv8 hp => ?_)
  rw [hE] at hp
  obtain ⟨rfl, rfl, b2, hL9⟩ := hp
  refine J.icmp_eq_same (tgt := 1692) (q := 1377) dL_law_1374 rfl rfl ?_
  exact hK iv8 (hV.go b1 hC9 b2 hL9 (ai_hold hV.2.1))

theorem ai_as {A : Mm} (hA : AI A) {a0 a1 : Int} : AI (an_as A a0 a1).2 := by
  unfold an_as
  repeat' split
  all_goals exact hA
set_option maxRecDepth 100000 in
set_option maxHeartbeats 4000000 in
theorem law_38 {l : Launch} {F : Nat × (Int → Int)} {iv : Mm} {i : Int} {P : Option VT → Shp → Mm → Prop} (hF0 : F.1 < 65536) (hF1 : ∀ j, -2147483648 ≤ F.2 j ∧ F.2 j < 2147483648) (hi0 : 0 ≤ i) (hi6 : i + 6 ≤ F.1) (hV : LV iv) (hK : ∀ iv2, LV iv2 → J l (yL_law).cls cL_law 4 (some FieldType.boolean) 14 78 7462 false F P 78 7462 1692 [some (r_ 1000), some (r_ 0), some (r_ 61), some (i_ i)] [] S0 iv2) : J l (yL_law).cls cL_law 4 (some FieldType.boolean) 14 78 7462 false F (P) 78 7462 1379 [some (r_ 1000), some (r_ 0), some (r_ 61), some (i_ i)] [] S0 (iv) := by
  refine J.aload_n (q := 1380) dL_law_1379 rfl ?_ rfl
  refine J.aload_n (q := 1381) dL_law_1380 rfl ?_ rfl
  refine J.iload_n (q := 1382) dL_law_1381 rfl ?_ rfl
  refine J.iconst (q := 1383) dL_law_1382 ?_ rfl
  refine J.iadd (q := 1384) dL_law_1383 ?_ rfl
  refine J.sld (q := 1385) dL_law_1384 (by omega) hF0 ?_ rfl
  refine J.aload_n (q := 1386) dL_law_1385 rfl ?_ rfl
  refine J.iload_n (q := 1387) dL_law_1386 rfl ?_ rfl
  refine J.iconst (q := 1388) dL_law_1387 ?_ rfl
  refine J.iadd (q := 1389) dL_law_1388 ?_ rfl
  refine J.sld (q := 1390) dL_law_1389 (by omega) hF0 ?_ rfl
  refine J.callV2 (ci := 5) (q := 1393) dL_law_1390 mv_X5_as kL_L_170 rfl (by decide) rfl ⟨by decide, by decide⟩ (Nat.le_of_ble_eq_true rfl) ⟨by decide, by decide⟩ rfl (c_X5_as hV.1 hV.2.1 (hF1 _) (hF1 _)) (fun v9 S9 iv9 hp => ?_)
  obtain ⟨rfl, rfl, b1, hC9⟩ := hp
  have hE := hi_eq b1
  have hA9 : AI iv9 := by
    have h := hV.2.1
    rw [← hE] at h
    exact h
  refine J.aload_n (q := 1394) dL_law_1393 rfl ?_ rfl
  refine J.aload_n (q := 1395) dL_law_1394 rfl ?_ rfl
  refine J.iload_n (q := 1396) dL_law_1395 rfl ?_ rfl
  refine J.iconst (q := 1397) dL_law_1396 ?_ rfl
  refine J.iadd (q := 1398) dL_law_1397 ?_ rfl
  refine J.sld (q := 1399) dL_law_1398 (by omega) hF0 ?_ rfl
  refine J.aload_n (q := 1400) dL_law_1399 rfl ?_ rfl
  refine J.iload_n (q := 1401) dL_law_1400 rfl ?_ rfl
  refine J.iconst (q := 1402) dL_law_1401 ?_ rfl
  refine J.iadd (q := 1403) dL_law_1402 ?_ rfl
  refine J.sld (q := 1404) dL_law_1403 (by omega) hF0 ?_ rfl
  refine J.callV2 (ci := 6) (q := 1407) dL_law_1404 mv_X6_as kL_L_173 rfl (by decide) rfl ⟨by decide, by decide⟩ (Nat.le_of_ble_eq_true rfl) ⟨by decide, by decide⟩ rfl (c_X6_as hA9 (hF1 _) (hF1 _)) (fun v8 S8 iv8 hp => ?_)
  rw [hE] at hp
  obtain ⟨rfl, rfl, b2, hL9⟩ := hp
  refine J.icmp_eq_same (tgt := 1692) (q := 1410) dL_law_1407 rfl rfl ?_
  exact hK iv8 (hV.go b1 hC9 b2 hL9 (ai_as hV.2.1))

set_option maxRecDepth 100000 in
set_option maxHeartbeats 4000000 in
theorem law_39 {l : Launch} {F : Nat × (Int → Int)} {iv : Mm} {i : Int} {P : Option VT → Shp → Mm → Prop} (hF0 : F.1 < 65536) (hF1 : ∀ j, -2147483648 ≤ F.2 j ∧ F.2 j < 2147483648) (hi0 : 0 ≤ i) (hi6 : i + 6 ≤ F.1) (hV : LV iv) (hK : ∀ iv2, LV iv2 → J l (yL_law).cls cL_law 4 (some FieldType.boolean) 14 78 7462 false F P 78 7462 1692 [some (r_ 1000), some (r_ 0), some (r_ 61), some (i_ i)] [] S0 iv2) : J l (yL_law).cls cL_law 4 (some FieldType.boolean) 14 78 7462 false F (P) 78 7462 1412 [some (r_ 1000), some (r_ 0), some (r_ 61), some (i_ i)] [] S0 (iv) := by
  refine J.aload_n (q := 1413) dL_law_1412 rfl ?_ rfl
  refine J.aload_n (q := 1414) dL_law_1413 rfl ?_ rfl
  refine J.iload_n (q := 1415) dL_law_1414 rfl ?_ rfl
  refine J.iconst (q := 1416) dL_law_1415 ?_ rfl
  refine J.iadd (q := 1417) dL_law_1416 ?_ rfl
  refine J.sld (q := 1418) dL_law_1417 (by omega) hF0 ?_ rfl
  refine J.aload_n (q := 1419) dL_law_1418 rfl ?_ rfl
  refine J.iload_n (q := 1420) dL_law_1419 rfl ?_ rfl
  refine J.iconst (q := 1421) dL_law_1420 ?_ rfl
  refine J.iadd (q := 1422) dL_law_1421 ?_ rfl
  refine J.sld (q := 1423) dL_law_1422 (by omega) hF0 ?_ rfl
  refine J.aload_n (q := 1424) dL_law_1423 rfl ?_ rfl
  refine J.iload_n (q := 1425) dL_law_1424 rfl ?_ rfl
  refine J.iconst (q := 1426) dL_law_1425 ?_ rfl
  refine J.iadd (q := 1427) dL_law_1426 ?_ rfl
  refine J.sld (q := 1428) dL_law_1427 (by omega) hF0 ?_ rfl
  refine J.callV3 (ci := 5) (q := 1431) dL_law_1428 mv_X5_sheet kL_L_174 rfl (by decide) rfl ⟨by decide, by decide⟩ (Nat.le_of_ble_eq_true rfl) ⟨by decide, by decide⟩ rfl (c_X5_sheet hV.1 hV.2.1 (hF1 _) (hF1 _) (hF1 _)) (fun v9 S9 iv9 hp => ?_)
  obtain ⟨rfl, rfl, b1, hC9⟩ := hp
  have hE := hi_eq b1
  have hA9 : AI iv9 := by
    have h := hV.2.1
    rw [← hE] at h
    exact h
  refine J.aload_n (q := 1432) dL_law_1431 rfl ?_ rfl
  refine J.aload_n (q := 1433) dL_law_1432 rfl ?_ rfl
  refine J.iload_n (q := 1434) dL_law_1433 rfl ?_ rfl
  refine J.iconst (q := 1435) dL_law_1434 ?_ rfl
  refine J.iadd (q := 1436) dL_law_1435 ?_ rfl
  refine J.sld (q := 1437) dL_law_1436 (by omega) hF0 ?_ rfl
  refine J.aload_n (q := 1438) dL_law_1437 rfl ?_ rfl
  refine J.iload_n (q := 1439) dL_law_1438 rfl ?_ rfl
  refine J.iconst (q := 1440) dL_law_1439 ?_ rfl
  refine J.iadd (q := 1441) dL_law_1440 ?_ rfl
  refine J.sld (q := 1442) dL_law_1441 (by omega) hF0 ?_ rfl
  refine J.aload_n (q := 1443) dL_law_1442 rfl ?_ rfl
  refine J.iload_n (q := 1444) dL_law_1443 rfl ?_ rfl
  refine J.iconst (q := 1445) dL_law_1444 ?_ rfl
  refine J.iadd (q := 1446) dL_law_1445 ?_ rfl
  refine J.sld (q := 1447) dL_law_1446 (by omega) hF0 ?_ rfl
  refine J.callV3 (ci := 6) (q := 1450) dL_law_1447 mv_X6_sheet kL_L_177 rfl (by decide) rfl ⟨by decide, by decide⟩ (Nat.le_of_ble_eq_true rfl) ⟨by decide, by decide⟩ rfl (c_X6_sheet hA9 (hF1 _) (hF1 _) (hF1 _)) (fun v8 S8 iv8 hp => ?_)
  rw [hE] at hp
  obtain ⟨rfl, rfl, b2, hL9⟩ := hp
  refine J.icmp_eq_same (tgt := 1692) (q := 1453) dL_law_1450 rfl rfl ?_
  exact hK iv8 (hV.go b1 hC9 b2 hL9 (ai_sheet hV.2.1))

set_option maxRecDepth 100000 in
set_option maxHeartbeats 4000000 in
theorem law_40 {l : Launch} {F : Nat × (Int → Int)} {iv : Mm} {i : Int} {P : Option VT → Shp → Mm → Prop} (hF0 : F.1 < 65536) (hF1 : ∀ j, -2147483648 ≤ F.2 j ∧ F.2 j < 2147483648) (hi0 : 0 ≤ i) (hi6 : i + 6 ≤ F.1) (hV : LV iv) (hK : ∀ iv2, LV iv2 → J l (yL_law).cls cL_law 4 (some FieldType.boolean) 14 78 7462 false F P 78 7462 1692 [some (r_ 1000), some (r_ 0), some (r_ 61), some (i_ i)] [] S0 iv2) : J l (yL_law).cls cL_law 4 (some FieldType.boolean) 14 78 7462 false F (P) 78 7462 1455 [some (r_ 1000), some (r_ 0), some (r_ 61), some (i_ i)] [] S0 (iv) := by
  refine J.aload_n (q := 1456) dL_law_1455 rfl ?_ rfl
  refine J.aload_n (q := 1457) dL_law_1456 rfl ?_ rfl
  refine J.iload_n (q := 1458) dL_law_1457 rfl ?_ rfl
  refine J.iconst (q := 1459) dL_law_1458 ?_ rfl
  refine J.iadd (q := 1460) dL_law_1459 ?_ rfl
  refine J.sld (q := 1461) dL_law_1460 (by omega) hF0 ?_ rfl
  refine J.aload_n (q := 1462) dL_law_1461 rfl ?_ rfl
  refine J.iload_n (q := 1463) dL_law_1462 rfl ?_ rfl
  refine J.iconst (q := 1464) dL_law_1463 ?_ rfl
  refine J.iadd (q := 1465) dL_law_1464 ?_ rfl
  refine J.sld (q := 1466) dL_law_1465 (by omega) hF0 ?_ rfl
  refine J.aload_n (q := 1467) dL_law_1466 rfl ?_ rfl
  refine J.iload_n (q := 1468) dL_law_1467 rfl ?_ rfl
  refine J.iconst (q := 1469) dL_law_1468 ?_ rfl
  refine J.iadd (q := 1470) dL_law_1469 ?_ rfl
  refine J.sld (q := 1471) dL_law_1470 (by omega) hF0 ?_ rfl
  refine J.callV3 (ci := 5) (q := 1474) dL_law_1471 mv_X5_write kL_L_178 rfl (by decide) rfl ⟨by decide, by decide⟩ (Nat.le_of_ble_eq_true rfl) ⟨by decide, by decide⟩ rfl (c_X5_write hV.1 hV.2.1 (hF1 _) (hF1 _) (hF1 _)) (fun v9 S9 iv9 hp => ?_)
  obtain ⟨rfl, rfl, b1, hC9⟩ := hp
  have hE := hi_eq b1
  have hA9 : AI iv9 := by
    have h := hV.2.1
    rw [← hE] at h
    exact h
  refine J.aload_n (q := 1475) dL_law_1474 rfl ?_ rfl
  refine J.aload_n (q := 1476) dL_law_1475 rfl ?_ rfl
  refine J.iload_n (q := 1477) dL_law_1476 rfl ?_ rfl
  refine J.iconst (q := 1478) dL_law_1477 ?_ rfl
  refine J.iadd (q := 1479) dL_law_1478 ?_ rfl
  refine J.sld (q := 1480) dL_law_1479 (by omega) hF0 ?_ rfl
  refine J.aload_n (q := 1481) dL_law_1480 rfl ?_ rfl
  refine J.iload_n (q := 1482) dL_law_1481 rfl ?_ rfl
  refine J.iconst (q := 1483) dL_law_1482 ?_ rfl
  refine J.iadd (q := 1484) dL_law_1483 ?_ rfl
  refine J.sld (q := 1485) dL_law_1484 (by omega) hF0 ?_ rfl
  refine J.aload_n (q := 1486) dL_law_1485 rfl ?_ rfl
  refine J.iload_n (q := 1487) dL_law_1486 rfl ?_ rfl
  refine J.iconst (q := 1488) dL_law_1487 ?_ rfl
  refine J.iadd (q := 1489) dL_law_1488 ?_ rfl
  refine J.sld (q := 1490) dL_law_1489 (by omega) hF0 ?_ rfl
  refine J.callV3 (ci := 6) (q := 1493) dL_law_1490 mv_X6_write kL_L_181 rfl (by decide) rfl ⟨by decide, by decide⟩ (Nat.le_of_ble_eq_true rfl) ⟨by decide, by decide⟩ rfl (c_X6_write hA9 (hF1 _) (hF1 _) (hF1 _)) (fun v8 S8 iv8 hp => ?_)
  rw [hE] at hp
  obtain ⟨rfl, rfl, b2, hL9⟩ := hp
  refine J.icmp_eq_same (tgt := 1692) (q := 1496) dL_law_1493 rfl rfl ?_
  exact hK iv8 (hV.go b1 hC9 b2 hL9 (ai_write hV.2.1 (hF1 _)))

set_option maxRecDepth 100000 in
set_option maxHeartbeats 4000000 in
theorem law_41 {l : Launch} {F : Nat × (Int → Int)} {iv : Mm} {i : Int} {P : Option VT → Shp → Mm → Prop} (hF0 : F.1 < 65536) (hF1 : ∀ j, -2147483648 ≤ F.2 j ∧ F.2 j < 2147483648) (hi0 : 0 ≤ i) (hi6 : i + 6 ≤ F.1) (hV : LV iv) (hK : ∀ iv2, LV iv2 → J l (yL_law).cls cL_law 4 (some FieldType.boolean) 14 78 7462 false F P 78 7462 1692 [some (r_ 1000), some (r_ 0), some (r_ 61), some (i_ i)] [] S0 iv2) : J l (yL_law).cls cL_law 4 (some FieldType.boolean) 14 78 7462 false F (P) 78 7462 1498 [some (r_ 1000), some (r_ 0), some (r_ 61), some (i_ i)] [] S0 (iv) := by
  refine J.aload_n (q := 1499) dL_law_1498 rfl ?_ rfl
  refine J.aload_n (q := 1500) dL_law_1499 rfl ?_ rfl
  refine J.iload_n (q := 1501) dL_law_1500 rfl ?_ rfl
  refine J.iconst (q := 1502) dL_law_1501 ?_ rfl
  refine J.iadd (q := 1503) dL_law_1502 ?_ rfl
  refine J.sld (q := 1504) dL_law_1503 (by omega) hF0 ?_ rfl
  refine J.aload_n (q := 1505) dL_law_1504 rfl ?_ rfl
  refine J.iload_n (q := 1506) dL_law_1505 rfl ?_ rfl
  refine J.iconst (q := 1507) dL_law_1506 ?_ rfl
  refine J.iadd (q := 1508) dL_law_1507 ?_ rfl
  refine J.sld (q := 1509) dL_law_1508 (by omega) hF0 ?_ rfl
  refine J.aload_n (q := 1510) dL_law_1509 rfl ?_ rfl
  refine J.iload_n (q := 1511) dL_law_1510 rfl ?_ rfl
  refine J.iconst (q := 1512) dL_law_1511 ?_ rfl
  refine J.iadd (q := 1513) dL_law_1512 ?_ rfl
  refine J.sld (q := 1514) dL_law_1513 (by omega) hF0 ?_ rfl
  refine J.aload_n (q := 1515) dL_law_1514 rfl ?_ rfl
  refine J.iload_n (q := 1516) dL_law_1515 rfl ?_ rfl
  refine J.iconst (q := 1517) dL_law_1516 ?_ rfl
  refine J.iadd (q := 1518) dL_law_1517 ?_ rfl
  refine J.sld (q := 1519) dL_law_1518 (by omega) hF0 ?_ rfl
  refine J.aload_n (q := 1520) dL_law_1519 rfl ?_ rfl
  refine J.iload_n (q := 1521) dL_law_1520 rfl ?_ rfl
  refine J.iconst (q := 1522) dL_law_1521 ?_ rfl
  refine J.iadd (q := 1523) dL_law_1522 ?_ rfl
  refine J.sld (q := 1524) dL_law_1523 (by omega) hF0 ?_ rfl
  refine J.callV5 (ci := 5) (q := 1527) dL_law_1524 mv_X5_copy kL_L_182 rfl (by decide) rfl ⟨by decide, by decide⟩ (Nat.le_of_ble_eq_true rfl) ⟨by decide, by decide⟩ rfl (c_X5_copy hV.1 hV.2.1 (hF1 _) (hF1 _) (hF1 _) (hF1 _) (hF1 _)) (fun v9 S9 iv9 hp => ?_)
  obtain ⟨rfl, rfl, b1, hC9⟩ := hp
  have hE := hi_eq b1
  have hA9 : AI iv9 := by
    have h := hV.2.1
    rw [← hE] at h
    exact h
  refine J.aload_n (q := 1528) dL_law_1527 rfl ?_ rfl
  refine J.aload_n (q := 1529) dL_law_1528 rfl ?_ rfl
  refine J.iload_n (q := 1530) dL_law_1529 rfl ?_ rfl
  refine J.iconst (q := 1531) dL_law_1530 ?_ rfl
  refine J.iadd (q := 1532) dL_law_1531 ?_ rfl
  refine J.sld (q := 1533) dL_law_1532 (by omega) hF0 ?_ rfl
  refine J.aload_n (q := 1534) dL_law_1533 rfl ?_ rfl
  refine J.iload_n (q := 1535) dL_law_1534 rfl ?_ rfl
  refine J.iconst (q := 1536) dL_law_1535 ?_ rfl
  refine J.iadd (q := 1537) dL_law_1536 ?_ rfl
  refine J.sld (q := 1538) dL_law_1537 (by omega) hF0 ?_ rfl
  refine J.aload_n (q := 1539) dL_law_1538 rfl ?_ rfl
  refine J.iload_n (q := 1540) dL_law_1539 rfl ?_ rfl
  refine J.iconst (q := 1541) dL_law_1540 ?_ rfl
  refine J.iadd (q := 1542) dL_law_1541 ?_ rfl
  refine J.sld (q := 1543) dL_law_1542 (by omega) hF0 ?_ rfl
  refine J.aload_n (q := 1544) dL_law_1543 rfl ?_ rfl
  refine J.iload_n (q := 1545) dL_law_1544 rfl ?_ rfl
  refine J.iconst (q := 1546) dL_law_1545 ?_ rfl
  refine J.iadd (q := 1547) dL_law_1546 ?_ rfl
  refine J.sld (q := 1548) dL_law_1547 (by omega) hF0 ?_ rfl
  refine J.aload_n (q := 1549) dL_law_1548 rfl ?_ rfl
  refine J.iload_n (q := 1550) dL_law_1549 rfl ?_ rfl
  refine J.iconst (q := 1551) dL_law_1550 ?_ rfl
  refine J.iadd (q := 1552) dL_law_1551 ?_ rfl
  refine J.sld (q := 1553) dL_law_1552 (by omega) hF0 ?_ rfl
  refine J.callV5 (ci := 6) (q := 1556) dL_law_1553 mv_X6_copy kL_L_186 rfl (by decide) rfl ⟨by decide, by decide⟩ (Nat.le_of_ble_eq_true rfl) ⟨by decide, by decide⟩ rfl (c_X6_copy hA9 (hF1 _) (hF1 _) (hF1 _) (hF1 _) (hF1 _)) (fun v8 S8 iv8 hp => ?_)
  rw [hE] at hp
  obtain ⟨rfl, rfl, b2, hL9⟩ := hp
  refine J.icmp_eq_same (tgt := 1692) (q := 1559) dL_law_1556 rfl rfl ?_
  exact hK iv8 (hV.go b1 hC9 b2 hL9 (ai_copy hV.2.1))

set_option maxRecDepth 100000 in
set_option maxHeartbeats 4000000 in
theorem law_42 {l : Launch} {F : Nat × (Int → Int)} {iv : Mm} {i : Int} {P : Option VT → Shp → Mm → Prop} (hF0 : F.1 < 65536) (hF1 : ∀ j, -2147483648 ≤ F.2 j ∧ F.2 j < 2147483648) (hi0 : 0 ≤ i) (hi6 : i + 6 ≤ F.1) (hV : LV iv) (hK : ∀ iv2, LV iv2 → J l (yL_law).cls cL_law 4 (some FieldType.boolean) 14 78 7462 false F P 78 7462 1692 [some (r_ 1000), some (r_ 0), some (r_ 61), some (i_ i)] [] S0 iv2) : J l (yL_law).cls cL_law 4 (some FieldType.boolean) 14 78 7462 false F (P) 78 7462 1561 [some (r_ 1000), some (r_ 0), some (r_ 61), some (i_ i)] [] S0 (iv) := by
  refine J.aload_n (q := 1562) dL_law_1561 rfl ?_ rfl
  refine J.aload_n (q := 1563) dL_law_1562 rfl ?_ rfl
  refine J.iload_n (q := 1564) dL_law_1563 rfl ?_ rfl
  refine J.iconst (q := 1565) dL_law_1564 ?_ rfl
  refine J.iadd (q := 1566) dL_law_1565 ?_ rfl
  refine J.sld (q := 1567) dL_law_1566 (by omega) hF0 ?_ rfl
  refine J.callV1 (ci := 5) (q := 1570) dL_law_1567 mv_X5_load kL_L_187 rfl (by decide) rfl ⟨by decide, by decide⟩ (Nat.le_of_ble_eq_true rfl) ⟨by decide, by decide⟩ rfl (c_X5_load hV.1 hV.2.1 (hF1 _)) (fun v9 S9 iv9 hp => ?_)
  obtain ⟨rfl, rfl, b1, hC9⟩ := hp
  have hE := hi_eq b1
  have hA9 : AI iv9 := by
    have h := hV.2.1
    rw [← hE] at h
    exact h
  refine J.aload_n (q := 1571) dL_law_1570 rfl ?_ rfl
  refine J.aload_n (q := 1572) dL_law_1571 rfl ?_ rfl
  refine J.iload_n (q := 1573) dL_law_1572 rfl ?_ rfl
  refine J.iconst (q := 1574) dL_law_1573 ?_ rfl
  refine J.iadd (q := 1575) dL_law_1574 ?_ rfl
  refine J.sld (q := 1576) dL_law_1575 (by omega) hF0 ?_ rfl
  refine J.callV1 (ci := 6) (q := 1579) dL_law_1576 mv_X6_load kL_L_190 rfl (by decide) rfl ⟨by decide, by decide⟩ (Nat.le_of_ble_eq_true rfl) ⟨by decide, by decide⟩ rfl (c_X6_load hA9 (hF1 _)) (fun v8 S8 iv8 hp => ?_)
  rw [hE] at hp
  obtain ⟨rfl, rfl, b2, hL9⟩ := hp
  refine J.icmp_eq_same (tgt := 1692) (q := 1582) dL_law_1579 rfl rfl ?_
  exact hK iv8 (hV.go b1 hC9 b2 hL9 (ai_load hV.2.1))

theorem ai_judge {A : Mm} (hA : AI A) {a0 : Int} : AI (an_judge A a0).2 := by
  unfold an_judge
  repeat' split
  all_goals exact hA
set_option maxRecDepth 100000 in
set_option maxHeartbeats 4000000 in
theorem law_43 {l : Launch} {F : Nat × (Int → Int)} {iv : Mm} {i : Int} {P : Option VT → Shp → Mm → Prop} (hF0 : F.1 < 65536) (hF1 : ∀ j, -2147483648 ≤ F.2 j ∧ F.2 j < 2147483648) (hi0 : 0 ≤ i) (hi6 : i + 6 ≤ F.1) (hV : LV iv) (hK : ∀ iv2, LV iv2 → J l (yL_law).cls cL_law 4 (some FieldType.boolean) 14 78 7462 false F P 78 7462 1692 [some (r_ 1000), some (r_ 0), some (r_ 61), some (i_ i)] [] S0 iv2) : J l (yL_law).cls cL_law 4 (some FieldType.boolean) 14 78 7462 false F (P) 78 7462 1584 [some (r_ 1000), some (r_ 0), some (r_ 61), some (i_ i)] [] S0 (iv) := by
  refine J.aload_n (q := 1585) dL_law_1584 rfl ?_ rfl
  refine J.aload_n (q := 1586) dL_law_1585 rfl ?_ rfl
  refine J.iload_n (q := 1587) dL_law_1586 rfl ?_ rfl
  refine J.iconst (q := 1588) dL_law_1587 ?_ rfl
  refine J.iadd (q := 1589) dL_law_1588 ?_ rfl
  refine J.sld (q := 1590) dL_law_1589 (by omega) hF0 ?_ rfl
  refine J.callV1 (ci := 5) (q := 1593) dL_law_1590 mv_X5_judge kL_L_191 rfl (by decide) rfl ⟨by decide, by decide⟩ (Nat.le_of_ble_eq_true rfl) ⟨by decide, by decide⟩ rfl (c_X5_judge hV.1 hV.2.1 (hF1 _)) (fun v9 S9 iv9 hp => ?_)
  obtain ⟨rfl, rfl, b1, hC9⟩ := hp
  have hE := hi_eq b1
  have hA9 : AI iv9 := by
    have h := hV.2.1
    rw [← hE] at h
    exact h
  refine J.aload_n (q := 1594) dL_law_1593 rfl ?_ rfl
  refine J.aload_n (q := 1595) dL_law_1594 rfl ?_ rfl
  refine J.iload_n (q := 1596) dL_law_1595 rfl ?_ rfl
  refine J.iconst (q := 1597) dL_law_1596 ?_ rfl
  refine J.iadd (q := 1598) dL_law_1597 ?_ rfl
  refine J.sld (q := 1599) dL_law_1598 (by omega) hF0 ?_ rfl
  refine J.callV1 (ci := 6) (q := 1602) dL_law_1599 mv_X6_judge kL_L_194 rfl (by decide) rfl ⟨by decide, by decide⟩ (Nat.le_of_ble_eq_true rfl) ⟨by decide, by decide⟩ rfl (c_X6_judge hA9 (hF1 _)) (fun v8 S8 iv8 hp => ?_)
  rw [hE] at hp
  obtain ⟨rfl, rfl, b2, hL9⟩ := hp
  refine J.icmp_eq_same (tgt := 1692) (q := 1605) dL_law_1602 rfl rfl ?_
  exact hK iv8 (hV.go b1 hC9 b2 hL9 (ai_judge hV.2.1))

set_option maxRecDepth 100000 in
set_option maxHeartbeats 4000000 in
theorem law_44 {l : Launch} {F : Nat × (Int → Int)} {iv : Mm} {i : Int} {P : Option VT → Shp → Mm → Prop} (hF0 : F.1 < 65536) (hF1 : ∀ j, -2147483648 ≤ F.2 j ∧ F.2 j < 2147483648) (hi0 : 0 ≤ i) (hi6 : i + 6 ≤ F.1) (hV : LV iv) (hK : ∀ iv2, LV iv2 → J l (yL_law).cls cL_law 4 (some FieldType.boolean) 14 78 7462 false F P 78 7462 1692 [some (r_ 1000), some (r_ 0), some (r_ 61), some (i_ i)] [] S0 iv2) : J l (yL_law).cls cL_law 4 (some FieldType.boolean) 14 78 7462 false F (P) 78 7462 1607 [some (r_ 1000), some (r_ 0), some (r_ 61), some (i_ i)] [] S0 (iv) := by
  refine J.aload_n (q := 1608) dL_law_1607 rfl ?_ rfl
  refine J.callV0 (ci := 5) (q := 1611) dL_law_1608 mv_X5_image kL_L_195 rfl (by decide) rfl ⟨by decide, by decide⟩ (Nat.le_of_ble_eq_true rfl) ⟨by decide, by decide⟩ rfl (c_X5_image hV.1 hV.2.1 ) (fun v9 S9 iv9 hp => ?_)
  obtain ⟨rfl, rfl, b1, hC9⟩ := hp
  have hE := hi_eq b1
  have hA9 : AI iv9 := by
    have h := hV.2.1
    rw [← hE] at h
    exact h
  refine J.aload_n (q := 1612) dL_law_1611 rfl ?_ rfl
  refine J.callV0 (ci := 6) (q := 1615) dL_law_1612 mv_X6_image kL_L_198 rfl (by decide) rfl ⟨by decide, by decide⟩ (Nat.le_of_ble_eq_true rfl) ⟨by decide, by decide⟩ rfl (c_X6_image hA9 ) (fun v8 S8 iv8 hp => ?_)
  rw [hE] at hp
  obtain ⟨rfl, rfl, b2, hL9⟩ := hp
  refine J.icmp_eq_same (tgt := 1692) (q := 1618) dL_law_1615 rfl rfl ?_
  exact hK iv8 (hV.go b1 hC9 b2 hL9 (ai_image hV.2.1))

set_option maxRecDepth 100000 in
set_option maxHeartbeats 4000000 in
theorem law_45 {l : Launch} {F : Nat × (Int → Int)} {iv : Mm} {i : Int} {P : Option VT → Shp → Mm → Prop} (hF0 : F.1 < 65536) (hF1 : ∀ j, -2147483648 ≤ F.2 j ∧ F.2 j < 2147483648) (hi0 : 0 ≤ i) (hi6 : i + 6 ≤ F.1) (hV : LV iv) (hK : ∀ iv2, LV iv2 → J l (yL_law).cls cL_law 4 (some FieldType.boolean) 14 78 7462 false F P 78 7462 1692 [some (r_ 1000), some (r_ 0), some (r_ 61), some (i_ i)] [] S0 iv2) : J l (yL_law).cls cL_law 4 (some FieldType.boolean) 14 78 7462 false F (P) 78 7462 1620 [some (r_ 1000), some (r_ 0), some (r_ 61), some (i_ i)] [] S0 (iv) := by
  refine J.aload_n (q := 1621) dL_law_1620 rfl ?_ rfl
  refine J.callV0 (ci := 5) (q := 1624) dL_law_1621 mv_X5_undo kL_L_199 rfl (by decide) rfl ⟨by decide, by decide⟩ (Nat.le_of_ble_eq_true rfl) ⟨by decide, by decide⟩ rfl (c_X5_undo hV.1 hV.2.1 ) (fun v9 S9 iv9 hp => ?_)
  obtain ⟨rfl, rfl, b1, hC9⟩ := hp
  have hE := hi_eq b1
  have hA9 : AI iv9 := by
    have h := hV.2.1
    rw [← hE] at h
    exact h
  refine J.aload_n (q := 1625) dL_law_1624 rfl ?_ rfl
  refine J.callV0 (ci := 6) (q := 1628) dL_law_1625 mv_X6_undo kL_L_202 rfl (by decide) rfl ⟨by decide, by decide⟩ (Nat.le_of_ble_eq_true rfl) ⟨by decide, by decide⟩ rfl (c_X6_undo hA9 ) (fun v8 S8 iv8 hp => ?_)
  rw [hE] at hp
  obtain ⟨rfl, rfl, b2, hL9⟩ := hp
  refine J.icmp_eq_same (tgt := 1692) (q := 1631) dL_law_1628 rfl rfl ?_
  exact hK iv8 (hV.go b1 hC9 b2 hL9 (ai_undo hV.2.1))

set_option maxRecDepth 100000 in
set_option maxHeartbeats 4000000 in
theorem law_46 {l : Launch} {F : Nat × (Int → Int)} {iv : Mm} {i : Int} {P : Option VT → Shp → Mm → Prop} (hF0 : F.1 < 65536) (hF1 : ∀ j, -2147483648 ≤ F.2 j ∧ F.2 j < 2147483648) (hi0 : 0 ≤ i) (hi6 : i + 6 ≤ F.1) (hV : LV iv) (hK : ∀ iv2, LV iv2 → J l (yL_law).cls cL_law 4 (some FieldType.boolean) 14 78 7462 false F P 78 7462 1692 [some (r_ 1000), some (r_ 0), some (r_ 61), some (i_ i)] [] S0 iv2) : J l (yL_law).cls cL_law 4 (some FieldType.boolean) 14 78 7462 false F (P) 78 7462 1633 [some (r_ 1000), some (r_ 0), some (r_ 61), some (i_ i)] [] S0 (iv) := by
  refine J.aload_n (q := 1634) dL_law_1633 rfl ?_ rfl
  refine J.callV0 (ci := 5) (q := 1637) dL_law_1634 mv_X5_tear kL_L_203 rfl (by decide) rfl ⟨by decide, by decide⟩ (Nat.le_of_ble_eq_true rfl) ⟨by decide, by decide⟩ rfl (c_X5_tear hV.1 hV.2.1 ) (fun v9 S9 iv9 hp => ?_)
  obtain ⟨rfl, rfl, b1, hC9⟩ := hp
  have hE := hi_eq b1
  have hA9 : AI iv9 := by
    have h := hV.2.1
    rw [← hE] at h
    exact h
  refine J.aload_n (q := 1638) dL_law_1637 rfl ?_ rfl
  refine J.callV0 (ci := 6) (q := 1641) dL_law_1638 mv_X6_tear kL_L_206 rfl (by decide) rfl ⟨by decide, by decide⟩ (Nat.le_of_ble_eq_true rfl) ⟨by decide, by decide⟩ rfl (c_X6_tear hA9 ) (fun v8 S8 iv8 hp => ?_)
  rw [hE] at hp
  obtain ⟨rfl, rfl, b2, hL9⟩ := hp
  refine J.icmp_eq_same (tgt := 1692) (q := 1644) dL_law_1641 rfl rfl ?_
  exact hK iv8 (hV.go b1 hC9 b2 hL9 (ai_tear hV.2.1))

theorem ai_count {A : Mm} (hA : AI A) {a0 : Int} : AI (an_count A a0).2 := by
  unfold an_count
  repeat' split
  all_goals exact hA
set_option maxRecDepth 100000 in
set_option maxHeartbeats 4000000 in
theorem law_47 {l : Launch} {F : Nat × (Int → Int)} {iv : Mm} {i : Int} {P : Option VT → Shp → Mm → Prop} (hF0 : F.1 < 65536) (hF1 : ∀ j, -2147483648 ≤ F.2 j ∧ F.2 j < 2147483648) (hi0 : 0 ≤ i) (hi6 : i + 6 ≤ F.1) (hV : LV iv) (hK : ∀ iv2, LV iv2 → J l (yL_law).cls cL_law 4 (some FieldType.boolean) 14 78 7462 false F P 78 7462 1692 [some (r_ 1000), some (r_ 0), some (r_ 61), some (i_ i)] [] S0 iv2) : J l (yL_law).cls cL_law 4 (some FieldType.boolean) 14 78 7462 false F (P) 78 7462 1646 [some (r_ 1000), some (r_ 0), some (r_ 61), some (i_ i)] [] S0 (iv) := by
  refine J.aload_n (q := 1647) dL_law_1646 rfl ?_ rfl
  refine J.aload_n (q := 1648) dL_law_1647 rfl ?_ rfl
  refine J.iload_n (q := 1649) dL_law_1648 rfl ?_ rfl
  refine J.iconst (q := 1650) dL_law_1649 ?_ rfl
  refine J.iadd (q := 1651) dL_law_1650 ?_ rfl
  refine J.sld (q := 1652) dL_law_1651 (by omega) hF0 ?_ rfl
  refine J.callV1 (ci := 5) (q := 1655) dL_law_1652 mv_X5_count kL_L_207 rfl (by decide) rfl ⟨by decide, by decide⟩ (Nat.le_of_ble_eq_true rfl) ⟨by decide, by decide⟩ rfl (c_X5_count hV.1 hV.2.1 (hF1 _)) (fun v9 S9 iv9 hp => ?_)
  obtain ⟨rfl, rfl, b1, hC9⟩ := hp
  have hE := hi_eq b1
  have hA9 : AI iv9 := by
    have h := hV.2.1
    rw [← hE] at h
    exact h
  refine J.aload_n (q := 1656) dL_law_1655 rfl ?_ rfl
  refine J.aload_n (q := 1657) dL_law_1656 rfl ?_ rfl
  refine J.iload_n (q := 1658) dL_law_1657 rfl ?_ rfl
  refine J.iconst (q := 1659) dL_law_1658 ?_ rfl
  refine J.iadd (q := 1660) dL_law_1659 ?_ rfl
  refine J.sld (q := 1661) dL_law_1660 (by omega) hF0 ?_ rfl
  refine J.callV1 (ci := 6) (q := 1664) dL_law_1661 mv_X6_count kL_L_210 rfl (by decide) rfl ⟨by decide, by decide⟩ (Nat.le_of_ble_eq_true rfl) ⟨by decide, by decide⟩ rfl (c_X6_count hA9 (hF1 _)) (fun v8 S8 iv8 hp => ?_)
  rw [hE] at hp
  obtain ⟨rfl, rfl, b2, hL9⟩ := hp
  refine J.icmp_eq_same (tgt := 1692) (q := 1667) dL_law_1664 rfl rfl ?_
  exact hK iv8 (hV.go b1 hC9 b2 hL9 (ai_count hV.2.1))

theorem ai_status {A : Mm} (hA : AI A) {a0 : Int} : AI (an_status A a0).2 := by
  unfold an_status
  repeat' split
  all_goals exact hA
set_option maxRecDepth 100000 in
set_option maxHeartbeats 4000000 in
theorem law_48 {l : Launch} {F : Nat × (Int → Int)} {iv : Mm} {i : Int} {P : Option VT → Shp → Mm → Prop} (hF0 : F.1 < 65536) (hF1 : ∀ j, -2147483648 ≤ F.2 j ∧ F.2 j < 2147483648) (hi0 : 0 ≤ i) (hi6 : i + 6 ≤ F.1) (hV : LV iv) (hK : ∀ iv2, LV iv2 → J l (yL_law).cls cL_law 4 (some FieldType.boolean) 14 78 7462 false F P 78 7462 1692 [some (r_ 1000), some (r_ 0), some (r_ 61), some (i_ i)] [] S0 iv2) : J l (yL_law).cls cL_law 4 (some FieldType.boolean) 14 78 7462 false F (P) 78 7462 1669 [some (r_ 1000), some (r_ 0), some (r_ 61), some (i_ i)] [] S0 (iv) := by
  refine J.aload_n (q := 1670) dL_law_1669 rfl ?_ rfl
  refine J.aload_n (q := 1671) dL_law_1670 rfl ?_ rfl
  refine J.iload_n (q := 1672) dL_law_1671 rfl ?_ rfl
  refine J.iconst (q := 1673) dL_law_1672 ?_ rfl
  refine J.iadd (q := 1674) dL_law_1673 ?_ rfl
  refine J.sld (q := 1675) dL_law_1674 (by omega) hF0 ?_ rfl
  refine J.callV1 (ci := 5) (q := 1678) dL_law_1675 mv_X5_status kL_L_211 rfl (by decide) rfl ⟨by decide, by decide⟩ (Nat.le_of_ble_eq_true rfl) ⟨by decide, by decide⟩ rfl (c_X5_status hV.1 hV.2.1 (hF1 _)) (fun v9 S9 iv9 hp => ?_)
  obtain ⟨rfl, rfl, b1, hC9⟩ := hp
  have hE := hi_eq b1
  have hA9 : AI iv9 := by
    have h := hV.2.1
    rw [← hE] at h
    exact h
  refine J.aload_n (q := 1679) dL_law_1678 rfl ?_ rfl
  refine J.aload_n (q := 1680) dL_law_1679 rfl ?_ rfl
  refine J.iload_n (q := 1681) dL_law_1680 rfl ?_ rfl
  refine J.iconst (q := 1682) dL_law_1681 ?_ rfl
  refine J.iadd (q := 1683) dL_law_1682 ?_ rfl
  refine J.sld (q := 1684) dL_law_1683 (by omega) hF0 ?_ rfl
  refine J.callV1 (ci := 6) (q := 1687) dL_law_1684 mv_X6_status kL_L_214 rfl (by decide) rfl ⟨by decide, by decide⟩ (Nat.le_of_ble_eq_true rfl) ⟨by decide, by decide⟩ rfl (c_X6_status hA9 (hF1 _)) (fun v8 S8 iv8 hp => ?_)
  rw [hE] at hp
  obtain ⟨rfl, rfl, b2, hL9⟩ := hp
  refine J.icmp_eq_same (tgt := 1692) (q := 1690) dL_law_1687 rfl rfl ?_
  exact hK iv8 (hV.go b1 hC9 b2 hL9 (ai_status hV.2.1))


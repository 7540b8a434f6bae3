theorem zdig_2 {s : zS} : (sp_digest s).2 = s := by
  unfold sp_digest zif
  split <;> rfl
set_option maxRecDepth 100000 in
set_option maxHeartbeats 4000000 in
theorem law_0 {L : Nat} {xs : Nat → Int32} (hL : L ≤ 3584) {i : Nat} (hi : i + 7 ≤ L) {p : Int} {c : Nat → Nat → Int} {hs : List (Int × (Nat → Nat → Int))} {tx : Nat → Int} {T : Nat} {h : zH} (H : zWd p c hs tx T h) (V : zVd p c hs tx T h) (kk : ∀ (s : zS) (h : zH), zBo s h → WP (mlaw L xs) zLQ 1377 [some (vR 1000), some (vR 1), some (vR 445), some (vI (i : Int))] [] zN zGR h) : WP (mlaw L xs) zLQ 200 [some (vR 1000), some (vR 1), some (vR 445), some (vI (i : Int))] [] zN zGR h := by
  refine w_aload1 dL_law_200 ?_
  refine w_aload0 dL_law_201 ?_
  refine w_iload3 dL_law_202 ?_
  refine wp_iconst dL_law_203 ?_
  refine wp_iadd dL_law_204 ?_
  refine wp_sld dL_law_205 ⟨by omega, by omega⟩ hL ?_
  refine l_ci (As := [vI (xs ((i : Int) + 1).toNat).toInt]) (rest := []) (np := 1) dL_law_206 lk_R_law0_13 mvX9_setPrime rfl (by decide) is_1 (Nat.le_of_ble_eq_true rfl) rfl (t_X9_setPrime H (z32 _)) (fun r1 h1 hP1 => ?_)
  obtain ⟨er1, W1, X1⟩ := hP1
  have V1 := zBo_1 V X1
  refine w_aload2 dL_law_209 ?_
  refine w_aload0 dL_law_210 ?_
  refine w_iload3 dL_law_211 ?_
  refine wp_iconst dL_law_212 ?_
  refine wp_iadd dL_law_213 ?_
  refine wp_sld dL_law_214 ⟨by omega, by omega⟩ hL ?_
  refine l_ci (As := [vI (xs ((i : Int) + 1).toNat).toInt]) (rest := [vI r1]) (np := 1) dL_law_215 lk_R_law0_17 mvX10_setPrime rfl (by decide) is_445 (Nat.le_of_ble_eq_true rfl) rfl (t_X10_setPrime V1 (z32 _)) (fun r2 h2 hP2 => ?_)
  obtain ⟨er2, V2, X2⟩ := hP2
  have er : r2 = r1 := er2.trans er1.symm
  subst er
  have Bo := zBo_2 W1 V2 (fun a j ha => X2 a j (Or.inl ha))
  refine wp_icmp_eqs 1377 dL_law_218 rfl ?_
  exact kk _ _ Bo
set_option maxRecDepth 100000 in
set_option maxHeartbeats 4000000 in
theorem law_1 {L : Nat} {xs : Nat → Int32} (hL : L ≤ 3584) {i : Nat} (hi : i + 7 ≤ L) {p : Int} {c : Nat → Nat → Int} {hs : List (Int × (Nat → Nat → Int))} {tx : Nat → Int} {T : Nat} {h : zH} (H : zWd p c hs tx T h) (V : zVd p c hs tx T h) (kk : ∀ (s : zS) (h : zH), zBo s h → WP (mlaw L xs) zLQ 1377 [some (vR 1000), some (vR 1), some (vR 445), some (vI (i : Int))] [] zN zGR h) : WP (mlaw L xs) zLQ 223 [some (vR 1000), some (vR 1), some (vR 445), some (vI (i : Int))] [] zN zGR h := by
  refine w_aload1 dL_law_223 ?_
  refine w_aload0 dL_law_224 ?_
  refine w_iload3 dL_law_225 ?_
  refine wp_iconst dL_law_226 ?_
  refine wp_iadd dL_law_227 ?_
  refine wp_sld dL_law_228 ⟨by omega, by omega⟩ hL ?_
  refine l_ci (As := [vI (xs ((i : Int) + 1).toNat).toInt]) (rest := []) (np := 1) dL_law_229 lk_R_law0_18 mvX9_type rfl (by decide) is_1 (Nat.le_of_ble_eq_true rfl) rfl (t_X9_type H (z32 _)) (fun r1 h1 hP1 => ?_)
  obtain ⟨er1, W1, X1⟩ := hP1
  have V1 := zBo_1 V X1
  refine w_aload2 dL_law_232 ?_
  refine w_aload0 dL_law_233 ?_
  refine w_iload3 dL_law_234 ?_
  refine wp_iconst dL_law_235 ?_
  refine wp_iadd dL_law_236 ?_
  refine wp_sld dL_law_237 ⟨by omega, by omega⟩ hL ?_
  refine l_ci (As := [vI (xs ((i : Int) + 1).toNat).toInt]) (rest := [vI r1]) (np := 1) dL_law_238 lk_R_law0_21 mvX10_type rfl (by decide) is_445 (Nat.le_of_ble_eq_true rfl) rfl (t_X10_type V1 (z32 _)) (fun r2 h2 hP2 => ?_)
  obtain ⟨er2, V2, X2⟩ := hP2
  have er : r2 = r1 := er2.trans er1.symm
  subst er
  have Bo := zBo_2 W1 V2 (fun a j ha => X2 a j (Or.inl ha))
  refine wp_icmp_eqs 1377 dL_law_241 rfl ?_
  exact kk _ _ Bo
set_option maxRecDepth 100000 in
set_option maxHeartbeats 4000000 in
theorem law_2 {L : Nat} {xs : Nat → Int32} (hL : L ≤ 3584) {i : Nat} (hi : i + 7 ≤ L) {p : Int} {c : Nat → Nat → Int} {hs : List (Int × (Nat → Nat → Int))} {tx : Nat → Int} {T : Nat} {h : zH} (H : zWd p c hs tx T h) (V : zVd p c hs tx T h) (kk : ∀ (s : zS) (h : zH), zBo s h → WP (mlaw L xs) zLQ 1377 [some (vR 1000), some (vR 1), some (vR 445), some (vI (i : Int))] [] zN zGR h) : WP (mlaw L xs) zLQ 246 [some (vR 1000), some (vR 1), some (vR 445), some (vI (i : Int))] [] zN zGR h := by
  refine w_aload1 dL_law_246 ?_
  refine l_ci (As := []) (rest := []) (np := 0) dL_law_247 lk_R_law0_22 mvX9_clearText rfl (by decide) is_1 (Nat.le_of_ble_eq_true rfl) rfl (t_X9_clearText H ) (fun r1 h1 hP1 => ?_)
  obtain ⟨er1, W1, X1⟩ := hP1
  have V1 := zBo_1 V X1
  refine w_aload2 dL_law_250 ?_
  refine l_ci (As := []) (rest := [vI r1]) (np := 0) dL_law_251 lk_R_law0_26 mvX10_clearText rfl (by decide) is_445 (Nat.le_of_ble_eq_true rfl) rfl (t_X10_clearText V1 ) (fun r2 h2 hP2 => ?_)
  obtain ⟨er2, V2, X2⟩ := hP2
  have er : r2 = r1 := er2.trans er1.symm
  subst er
  have Bo := zBo_2 W1 V2 (fun a j ha => X2 a j (Or.inl ha))
  refine wp_icmp_eqs 1377 dL_law_254 rfl ?_
  exact kk _ _ Bo
set_option maxRecDepth 100000 in
set_option maxHeartbeats 4000000 in
theorem law_3 {L : Nat} {xs : Nat → Int32} (hL : L ≤ 3584) {i : Nat} (hi : i + 7 ≤ L) {p : Int} {c : Nat → Nat → Int} {hs : List (Int × (Nat → Nat → Int))} {tx : Nat → Int} {T : Nat} {h : zH} (H : zWd p c hs tx T h) (V : zVd p c hs tx T h) (kk : ∀ (s : zS) (h : zH), zBo s h → WP (mlaw L xs) zLQ 1377 [some (vR 1000), some (vR 1), some (vR 445), some (vI (i : Int))] [] zN zGR h) : WP (mlaw L xs) zLQ 259 [some (vR 1000), some (vR 1), some (vR 445), some (vI (i : Int))] [] zN zGR h := by
  refine w_aload1 dL_law_259 ?_
  refine w_aload0 dL_law_260 ?_
  refine w_iload3 dL_law_261 ?_
  refine wp_iconst dL_law_262 ?_
  refine wp_iadd dL_law_263 ?_
  refine wp_sld dL_law_264 ⟨by omega, by omega⟩ hL ?_
  refine l_ci (As := [vI (xs ((i : Int) + 1).toNat).toInt]) (rest := []) (np := 1) dL_law_265 lk_R_law0_27 mvX9_read rfl (by decide) is_1 (Nat.le_of_ble_eq_true rfl) rfl (t_X9_read H (z32 _)) (fun r1 h1 hP1 => ?_)
  obtain ⟨er1, W1, X1⟩ := hP1
  have V1 := zBo_1 V X1
  refine w_aload2 dL_law_268 ?_
  refine w_aload0 dL_law_269 ?_
  refine w_iload3 dL_law_270 ?_
  refine wp_iconst dL_law_271 ?_
  refine wp_iadd dL_law_272 ?_
  refine wp_sld dL_law_273 ⟨by omega, by omega⟩ hL ?_
  refine l_ci (As := [vI (xs ((i : Int) + 1).toNat).toInt]) (rest := [vI r1]) (np := 1) dL_law_274 lk_R_law0_30 mvX10_read rfl (by decide) is_445 (Nat.le_of_ble_eq_true rfl) rfl (t_X10_read V1 (z32 _)) (fun r2 h2 hP2 => ?_)
  obtain ⟨er2, V2, X2⟩ := hP2
  have er : r2 = r1 := er2.trans er1.symm
  subst er
  have Bo := zBo_2 W1 V2 (fun a j ha => X2 a j (Or.inl ha))
  refine wp_icmp_eqs 1377 dL_law_277 rfl ?_
  exact kk _ _ Bo
set_option maxRecDepth 100000 in
set_option maxHeartbeats 4000000 in
theorem law_4 {L : Nat} {xs : Nat → Int32} (hL : L ≤ 3584) {i : Nat} (hi : i + 7 ≤ L) {p : Int} {c : Nat → Nat → Int} {hs : List (Int × (Nat → Nat → Int))} {tx : Nat → Int} {T : Nat} {h : zH} (H : zWd p c hs tx T h) (V : zVd p c hs tx T h) (kk : ∀ (s : zS) (h : zH), zBo s h → WP (mlaw L xs) zLQ 1377 [some (vR 1000), some (vR 1), some (vR 445), some (vI (i : Int))] [] zN zGR h) : WP (mlaw L xs) zLQ 282 [some (vR 1000), some (vR 1), some (vR 445), some (vI (i : Int))] [] zN zGR h := by
  refine w_aload1 dL_law_282 ?_
  refine w_aload0 dL_law_283 ?_
  refine w_iload3 dL_law_284 ?_
  refine wp_iconst dL_law_285 ?_
  refine wp_iadd dL_law_286 ?_
  refine wp_sld dL_law_287 ⟨by omega, by omega⟩ hL ?_
  refine w_aload0 dL_law_288 ?_
  refine w_iload3 dL_law_289 ?_
  refine wp_iconst dL_law_290 ?_
  refine wp_iadd dL_law_291 ?_
  refine wp_sld dL_law_292 ⟨by omega, by omega⟩ hL ?_
  refine w_aload0 dL_law_293 ?_
  refine w_iload3 dL_law_294 ?_
  refine wp_iconst dL_law_295 ?_
  refine wp_iadd dL_law_296 ?_
  refine wp_sld dL_law_297 ⟨by omega, by omega⟩ hL ?_
  refine w_aload0 dL_law_298 ?_
  refine w_iload3 dL_law_299 ?_
  refine wp_iconst dL_law_300 ?_
  refine wp_iadd dL_law_301 ?_
  refine wp_sld dL_law_302 ⟨by omega, by omega⟩ hL ?_
  refine w_aload0 dL_law_303 ?_
  refine w_iload3 dL_law_304 ?_
  refine wp_iconst dL_law_305 ?_
  refine wp_iadd dL_law_306 ?_
  refine wp_sld dL_law_307 ⟨by omega, by omega⟩ hL ?_
  refine l_ci (As := [vI (xs ((i : Int) + 1).toNat).toInt, vI (xs ((i : Int) + 2).toNat).toInt, vI (xs ((i : Int) + 3).toNat).toInt, vI (xs ((i : Int) + 4).toNat).toInt, vI (xs ((i : Int) + 5).toNat).toInt]) (rest := []) (np := 5) dL_law_308 lk_R_law0_31 mvX9_setCoefficient rfl (by decide) is_1 (Nat.le_of_ble_eq_true rfl) rfl (t_X9_setCoefficient H (z32 _) (z32 _) (z32 _) (z32 _) (z32 _)) (fun r1 h1 hP1 => ?_)
  obtain ⟨er1, W1, X1⟩ := hP1
  have V1 := zBo_1 V X1
  refine w_aload2 dL_law_311 ?_
  refine w_aload0 dL_law_312 ?_
  refine w_iload3 dL_law_313 ?_
  refine wp_iconst dL_law_314 ?_
  refine wp_iadd dL_law_315 ?_
  refine wp_sld dL_law_316 ⟨by omega, by omega⟩ hL ?_
  refine w_aload0 dL_law_317 ?_
  refine w_iload3 dL_law_318 ?_
  refine wp_iconst dL_law_319 ?_
  refine wp_iadd dL_law_320 ?_
  refine wp_sld dL_law_321 ⟨by omega, by omega⟩ hL ?_
  refine w_aload0 dL_law_322 ?_
  refine w_iload3 dL_law_323 ?_
  refine wp_iconst dL_law_324 ?_
  refine wp_iadd dL_law_325 ?_
  refine wp_sld dL_law_326 ⟨by omega, by omega⟩ hL ?_
  refine w_aload0 dL_law_327 ?_
  refine w_iload3 dL_law_328 ?_
  refine wp_iconst dL_law_329 ?_
  refine wp_iadd dL_law_330 ?_
  refine wp_sld dL_law_331 ⟨by omega, by omega⟩ hL ?_
  refine w_aload0 dL_law_332 ?_
  refine w_iload3 dL_law_333 ?_
  refine wp_iconst dL_law_334 ?_
  refine wp_iadd dL_law_335 ?_
  refine wp_sld dL_law_336 ⟨by omega, by omega⟩ hL ?_
  refine l_ci (As := [vI (xs ((i : Int) + 1).toNat).toInt, vI (xs ((i : Int) + 2).toNat).toInt, vI (xs ((i : Int) + 3).toNat).toInt, vI (xs ((i : Int) + 4).toNat).toInt, vI (xs ((i : Int) + 5).toNat).toInt]) (rest := [vI r1]) (np := 5) dL_law_337 lk_R_law0_35 mvX10_setCoefficient rfl (by decide) is_445 (Nat.le_of_ble_eq_true rfl) rfl (t_X10_setCoefficient V1 (z32 _) (z32 _) (z32 _) (z32 _) (z32 _)) (fun r2 h2 hP2 => ?_)
  obtain ⟨er2, V2, X2⟩ := hP2
  have er : r2 = r1 := er2.trans er1.symm
  subst er
  have Bo := zBo_2 W1 V2 (fun a j ha => X2 a j (Or.inl ha))
  refine wp_icmp_eqs 1377 dL_law_340 rfl ?_
  exact kk _ _ Bo
set_option maxRecDepth 100000 in
set_option maxHeartbeats 4000000 in
theorem law_5 {L : Nat} {xs : Nat → Int32} (hL : L ≤ 3584) {i : Nat} (hi : i + 7 ≤ L) {p : Int} {c : Nat → Nat → Int} {hs : List (Int × (Nat → Nat → Int))} {tx : Nat → Int} {T : Nat} {h : zH} (H : zWd p c hs tx T h) (V : zVd p c hs tx T h) (kk : ∀ (s : zS) (h : zH), zBo s h → WP (mlaw L xs) zLQ 1377 [some (vR 1000), some (vR 1), some (vR 445), some (vI (i : Int))] [] zN zGR h) : WP (mlaw L xs) zLQ 345 [some (vR 1000), some (vR 1), some (vR 445), some (vI (i : Int))] [] zN zGR h := by
  refine w_aload1 dL_law_345 ?_
  refine w_aload0 dL_law_346 ?_
  refine w_iload3 dL_law_347 ?_
  refine wp_iconst dL_law_348 ?_
  refine wp_iadd dL_law_349 ?_
  refine wp_sld dL_law_350 ⟨by omega, by omega⟩ hL ?_
  refine w_aload0 dL_law_351 ?_
  refine w_iload3 dL_law_352 ?_
  refine wp_iconst dL_law_353 ?_
  refine wp_iadd dL_law_354 ?_
  refine wp_sld dL_law_355 ⟨by omega, by omega⟩ hL ?_
  refine w_aload0 dL_law_356 ?_
  refine w_iload3 dL_law_357 ?_
  refine wp_iconst dL_law_358 ?_
  refine wp_iadd dL_law_359 ?_
  refine wp_sld dL_law_360 ⟨by omega, by omega⟩ hL ?_
  refine w_aload0 dL_law_361 ?_
  refine w_iload3 dL_law_362 ?_
  refine wp_iconst dL_law_363 ?_
  refine wp_iadd dL_law_364 ?_
  refine wp_sld dL_law_365 ⟨by omega, by omega⟩ hL ?_
  refine l_ci (As := [vI (xs ((i : Int) + 1).toNat).toInt, vI (xs ((i : Int) + 2).toNat).toInt, vI (xs ((i : Int) + 3).toNat).toInt, vI (xs ((i : Int) + 4).toNat).toInt]) (rest := []) (np := 4) dL_law_366 lk_R_law0_36 mvX9_coefficient rfl (by decide) is_1 (Nat.le_of_ble_eq_true rfl) rfl (t_X9_coefficient H (z32 _) (z32 _) (z32 _) (z32 _)) (fun r1 h1 hP1 => ?_)
  obtain ⟨er1, W1, X1⟩ := hP1
  have V1 := zBo_1 V X1
  refine w_aload2 dL_law_369 ?_
  refine w_aload0 dL_law_370 ?_
  refine w_iload3 dL_law_371 ?_
  refine wp_iconst dL_law_372 ?_
  refine wp_iadd dL_law_373 ?_
  refine wp_sld dL_law_374 ⟨by omega, by omega⟩ hL ?_
  refine w_aload0 dL_law_375 ?_
  refine w_iload3 dL_law_376 ?_
  refine wp_iconst dL_law_377 ?_
  refine wp_iadd dL_law_378 ?_
  refine wp_sld dL_law_379 ⟨by omega, by omega⟩ hL ?_
  refine w_aload0 dL_law_380 ?_
  refine w_iload3 dL_law_381 ?_
  refine wp_iconst dL_law_382 ?_
  refine wp_iadd dL_law_383 ?_
  refine wp_sld dL_law_384 ⟨by omega, by omega⟩ hL ?_
  refine w_aload0 dL_law_385 ?_
  refine w_iload3 dL_law_386 ?_
  refine wp_iconst dL_law_387 ?_
  refine wp_iadd dL_law_388 ?_
  refine wp_sld dL_law_389 ⟨by omega, by omega⟩ hL ?_
  refine l_ci (As := [vI (xs ((i : Int) + 1).toNat).toInt, vI (xs ((i : Int) + 2).toNat).toInt, vI (xs ((i : Int) + 3).toNat).toInt, vI (xs ((i : Int) + 4).toNat).toInt]) (rest := [vI r1]) (np := 4) dL_law_390 lk_R_law0_40 mvX10_coefficient rfl (by decide) is_445 (Nat.le_of_ble_eq_true rfl) rfl (t_X10_coefficient V1 (z32 _) (z32 _) (z32 _) (z32 _)) (fun r2 h2 hP2 => ?_)
  obtain ⟨er2, V2, X2⟩ := hP2
  have er : r2 = r1 := er2.trans er1.symm
  subst er
  have Bo := zBo_2 W1 V2 (fun a j ha => X2 a j (Or.inl ha))
  refine wp_icmp_eqs 1377 dL_law_393 rfl ?_
  exact kk _ _ Bo
set_option maxRecDepth 100000 in
set_option maxHeartbeats 4000000 in
theorem law_6 {L : Nat} {xs : Nat → Int32} (hL : L ≤ 3584) {i : Nat} (hi : i + 7 ≤ L) {p : Int} {c : Nat → Nat → Int} {hs : List (Int × (Nat → Nat → Int))} {tx : Nat → Int} {T : Nat} {h : zH} (H : zWd p c hs tx T h) (V : zVd p c hs tx T h) (kk : ∀ (s : zS) (h : zH), zBo s h → WP (mlaw L xs) zLQ 1377 [some (vR 1000), some (vR 1), some (vR 445), some (vI (i : Int))] [] zN zGR h) : WP (mlaw L xs) zLQ 398 [some (vR 1000), some (vR 1), some (vR 445), some (vI (i : Int))] [] zN zGR h := by
  refine w_aload1 dL_law_398 ?_
  refine w_aload0 dL_law_399 ?_
  refine w_iload3 dL_law_400 ?_
  refine wp_iconst dL_law_401 ?_
  refine wp_iadd dL_law_402 ?_
  refine wp_sld dL_law_403 ⟨by omega, by omega⟩ hL ?_
  refine w_aload0 dL_law_404 ?_
  refine w_iload3 dL_law_405 ?_
  refine wp_iconst dL_law_406 ?_
  refine wp_iadd dL_law_407 ?_
  refine wp_sld dL_law_408 ⟨by omega, by omega⟩ hL ?_
  refine w_aload0 dL_law_409 ?_
  refine w_iload3 dL_law_410 ?_
  refine wp_iconst dL_law_411 ?_
  refine wp_iadd dL_law_412 ?_
  refine wp_sld dL_law_413 ⟨by omega, by omega⟩ hL ?_
  refine w_aload0 dL_law_414 ?_
  refine w_iload3 dL_law_415 ?_
  refine wp_iconst dL_law_416 ?_
  refine wp_iadd dL_law_417 ?_
  refine wp_sld dL_law_418 ⟨by omega, by omega⟩ hL ?_
  refine w_aload0 dL_law_419 ?_
  refine w_iload3 dL_law_420 ?_
  refine wp_iconst dL_law_421 ?_
  refine wp_iadd dL_law_422 ?_
  refine wp_sld dL_law_423 ⟨by omega, by omega⟩ hL ?_
  refine l_ci (As := [vI (xs ((i : Int) + 1).toNat).toInt, vI (xs ((i : Int) + 2).toNat).toInt, vI (xs ((i : Int) + 3).toNat).toInt, vI (xs ((i : Int) + 4).toNat).toInt, vI (xs ((i : Int) + 5).toNat).toInt]) (rest := []) (np := 5) dL_law_424 lk_R_law0_41 mvX9_draw rfl (by decide) is_1 (Nat.le_of_ble_eq_true rfl) rfl (t_X9_draw H (z32 _) (z32 _) (z32 _) (z32 _) (z32 _)) (fun r1 h1 hP1 => ?_)
  obtain ⟨er1, W1, X1⟩ := hP1
  have V1 := zBo_1 V X1
  refine w_aload2 dL_law_427 ?_
  refine w_aload0 dL_law_428 ?_
  refine w_iload3 dL_law_429 ?_
  refine wp_iconst dL_law_430 ?_
  refine wp_iadd dL_law_431 ?_
  refine wp_sld dL_law_432 ⟨by omega, by omega⟩ hL ?_
  refine w_aload0 dL_law_433 ?_
  refine w_iload3 dL_law_434 ?_
  refine wp_iconst dL_law_435 ?_
  refine wp_iadd dL_law_436 ?_
  refine wp_sld dL_law_437 ⟨by omega, by omega⟩ hL ?_
  refine w_aload0 dL_law_438 ?_
  refine w_iload3 dL_law_439 ?_
  refine wp_iconst dL_law_440 ?_
  refine wp_iadd dL_law_441 ?_
  refine wp_sld dL_law_442 ⟨by omega, by omega⟩ hL ?_
  refine w_aload0 dL_law_443 ?_
  refine w_iload3 dL_law_444 ?_
  refine wp_iconst dL_law_445 ?_
  refine wp_iadd dL_law_446 ?_
  refine wp_sld dL_law_447 ⟨by omega, by omega⟩ hL ?_
  refine w_aload0 dL_law_448 ?_
  refine w_iload3 dL_law_449 ?_
  refine wp_iconst dL_law_450 ?_
  refine wp_iadd dL_law_451 ?_
  refine wp_sld dL_law_452 ⟨by omega, by omega⟩ hL ?_
  refine l_ci (As := [vI (xs ((i : Int) + 1).toNat).toInt, vI (xs ((i : Int) + 2).toNat).toInt, vI (xs ((i : Int) + 3).toNat).toInt, vI (xs ((i : Int) + 4).toNat).toInt, vI (xs ((i : Int) + 5).toNat).toInt]) (rest := [vI r1]) (np := 5) dL_law_453 lk_R_law0_44 mvX10_draw rfl (by decide) is_445 (Nat.le_of_ble_eq_true rfl) rfl (t_X10_draw V1 (z32 _) (z32 _) (z32 _) (z32 _) (z32 _)) (fun r2 h2 hP2 => ?_)
  obtain ⟨er2, V2, X2⟩ := hP2
  have er : r2 = r1 := er2.trans er1.symm
  subst er
  have Bo := zBo_2 W1 V2 (fun a j ha => X2 a j (Or.inl ha))
  refine wp_icmp_eqs 1377 dL_law_456 rfl ?_
  exact kk _ _ Bo
set_option maxRecDepth 100000 in
set_option maxHeartbeats 4000000 in
theorem law_7 {L : Nat} {xs : Nat → Int32} (hL : L ≤ 3584) {i : Nat} (hi : i + 7 ≤ L) {p : Int} {c : Nat → Nat → Int} {hs : List (Int × (Nat → Nat → Int))} {tx : Nat → Int} {T : Nat} {h : zH} (H : zWd p c hs tx T h) (V : zVd p c hs tx T h) (kk : ∀ (s : zS) (h : zH), zBo s h → WP (mlaw L xs) zLQ 1377 [some (vR 1000), some (vR 1), some (vR 445), some (vI (i : Int))] [] zN zGR h) : WP (mlaw L xs) zLQ 461 [some (vR 1000), some (vR 1), some (vR 445), some (vI (i : Int))] [] zN zGR h := by
  refine w_aload1 dL_law_461 ?_
  refine w_aload0 dL_law_462 ?_
  refine w_iload3 dL_law_463 ?_
  refine wp_iconst dL_law_464 ?_
  refine wp_iadd dL_law_465 ?_
  refine wp_sld dL_law_466 ⟨by omega, by omega⟩ hL ?_
  refine w_aload0 dL_law_467 ?_
  refine w_iload3 dL_law_468 ?_
  refine wp_iconst dL_law_469 ?_
  refine wp_iadd dL_law_470 ?_
  refine wp_sld dL_law_471 ⟨by omega, by omega⟩ hL ?_
  refine w_aload0 dL_law_472 ?_
  refine w_iload3 dL_law_473 ?_
  refine wp_iconst dL_law_474 ?_
  refine wp_iadd dL_law_475 ?_
  refine wp_sld dL_law_476 ⟨by omega, by omega⟩ hL ?_
  refine l_ci (As := [vI (xs ((i : Int) + 1).toNat).toInt, vI (xs ((i : Int) + 2).toNat).toInt, vI (xs ((i : Int) + 3).toNat).toInt]) (rest := []) (np := 3) dL_law_477 lk_R_law0_45 mvX9_plant rfl (by decide) is_1 (Nat.le_of_ble_eq_true rfl) rfl (t_X9_plant H (z32 _) (z32 _) (z32 _)) (fun r1 h1 hP1 => ?_)
  obtain ⟨er1, W1, X1⟩ := hP1
  have V1 := zBo_1 V X1
  refine w_aload2 dL_law_480 ?_
  refine w_aload0 dL_law_481 ?_
  refine w_iload3 dL_law_482 ?_
  refine wp_iconst dL_law_483 ?_
  refine wp_iadd dL_law_484 ?_
  refine wp_sld dL_law_485 ⟨by omega, by omega⟩ hL ?_
  refine w_aload0 dL_law_486 ?_
  refine w_iload3 dL_law_487 ?_
  refine wp_iconst dL_law_488 ?_
  refine wp_iadd dL_law_489 ?_
  refine wp_sld dL_law_490 ⟨by omega, by omega⟩ hL ?_
  refine w_aload0 dL_law_491 ?_
  refine w_iload3 dL_law_492 ?_
  refine wp_iconst dL_law_493 ?_
  refine wp_iadd dL_law_494 ?_
  refine wp_sld dL_law_495 ⟨by omega, by omega⟩ hL ?_
  refine l_ci (As := [vI (xs ((i : Int) + 1).toNat).toInt, vI (xs ((i : Int) + 2).toNat).toInt, vI (xs ((i : Int) + 3).toNat).toInt]) (rest := [vI r1]) (np := 3) dL_law_496 lk_R_law0_49 mvX10_plant rfl (by decide) is_445 (Nat.le_of_ble_eq_true rfl) rfl (t_X10_plant V1 (z32 _) (z32 _) (z32 _)) (fun r2 h2 hP2 => ?_)
  obtain ⟨er2, V2, X2⟩ := hP2
  have er : r2 = r1 := er2.trans er1.symm
  subst er
  have Bo := zBo_2 W1 V2 (fun a j ha => X2 a j (Or.inl ha))
  refine wp_icmp_eqs 1377 dL_law_499 rfl ?_
  exact kk _ _ Bo
set_option maxRecDepth 100000 in
set_option maxHeartbeats 4000000 in
theorem law_8 {L : Nat} {xs : Nat → Int32} (hL : L ≤ 3584) {i : Nat} (hi : i + 7 ≤ L) {p : Int} {c : Nat → Nat → Int} {hs : List (Int × (Nat → Nat → Int))} {tx : Nat → Int} {T : Nat} {h : zH} (H : zWd p c hs tx T h) (V : zVd p c hs tx T h) (kk : ∀ (s : zS) (h : zH), zBo s h → WP (mlaw L xs) zLQ 1377 [some (vR 1000), some (vR 1), some (vR 445), some (vI (i : Int))] [] zN zGR h) : WP (mlaw L xs) zLQ 504 [some (vR 1000), some (vR 1), some (vR 445), some (vI (i : Int))] [] zN zGR h := by
  refine w_aload1 dL_law_504 ?_
  refine w_aload0 dL_law_505 ?_
  refine w_iload3 dL_law_506 ?_
  refine wp_iconst dL_law_507 ?_
  refine wp_iadd dL_law_508 ?_
  refine wp_sld dL_law_509 ⟨by omega, by omega⟩ hL ?_
  refine w_aload0 dL_law_510 ?_
  refine w_iload3 dL_law_511 ?_
  refine wp_iconst dL_law_512 ?_
  refine wp_iadd dL_law_513 ?_
  refine wp_sld dL_law_514 ⟨by omega, by omega⟩ hL ?_
  refine l_ci (As := [vI (xs ((i : Int) + 1).toNat).toInt, vI (xs ((i : Int) + 2).toNat).toInt]) (rest := []) (np := 2) dL_law_515 lk_R_law0_50 mvX9_swap rfl (by decide) is_1 (Nat.le_of_ble_eq_true rfl) rfl (t_X9_swap H (z32 _) (z32 _)) (fun r1 h1 hP1 => ?_)
  obtain ⟨er1, W1, X1⟩ := hP1
  have V1 := zBo_1 V X1
  refine w_aload2 dL_law_518 ?_
  refine w_aload0 dL_law_519 ?_
  refine w_iload3 dL_law_520 ?_
  refine wp_iconst dL_law_521 ?_
  refine wp_iadd dL_law_522 ?_
  refine wp_sld dL_law_523 ⟨by omega, by omega⟩ hL ?_
  refine w_aload0 dL_law_524 ?_
  refine w_iload3 dL_law_525 ?_
  refine wp_iconst dL_law_526 ?_
  refine wp_iadd dL_law_527 ?_
  refine wp_sld dL_law_528 ⟨by omega, by omega⟩ hL ?_
  refine l_ci (As := [vI (xs ((i : Int) + 1).toNat).toInt, vI (xs ((i : Int) + 2).toNat).toInt]) (rest := [vI r1]) (np := 2) dL_law_529 lk_R_law0_54 mvX10_swap rfl (by decide) is_445 (Nat.le_of_ble_eq_true rfl) rfl (t_X10_swap V1 (z32 _) (z32 _)) (fun r2 h2 hP2 => ?_)
  obtain ⟨er2, V2, X2⟩ := hP2
  have er : r2 = r1 := er2.trans er1.symm
  subst er
  have Bo := zBo_2 W1 V2 (fun a j ha => X2 a j (Or.inl ha))
  refine wp_icmp_eqs 1377 dL_law_532 rfl ?_
  exact kk _ _ Bo
set_option maxRecDepth 100000 in
set_option maxHeartbeats 4000000 in
theorem law_9 {L : Nat} {xs : Nat → Int32} (hL : L ≤ 3584) {i : Nat} (hi : i + 7 ≤ L) {p : Int} {c : Nat → Nat → Int} {hs : List (Int × (Nat → Nat → Int))} {tx : Nat → Int} {T : Nat} {h : zH} (H : zWd p c hs tx T h) (V : zVd p c hs tx T h) (kk : ∀ (s : zS) (h : zH), zBo s h → WP (mlaw L xs) zLQ 1377 [some (vR 1000), some (vR 1), some (vR 445), some (vI (i : Int))] [] zN zGR h) : WP (mlaw L xs) zLQ 537 [some (vR 1000), some (vR 1), some (vR 445), some (vI (i : Int))] [] zN zGR h := by
  refine w_aload1 dL_law_537 ?_
  refine w_aload0 dL_law_538 ?_
  refine w_iload3 dL_law_539 ?_
  refine wp_iconst dL_law_540 ?_
  refine wp_iadd dL_law_541 ?_
  refine wp_sld dL_law_542 ⟨by omega, by omega⟩ hL ?_
  refine w_aload0 dL_law_543 ?_
  refine w_iload3 dL_law_544 ?_
  refine wp_iconst dL_law_545 ?_
  refine wp_iadd dL_law_546 ?_
  refine wp_sld dL_law_547 ⟨by omega, by omega⟩ hL ?_
  refine w_aload0 dL_law_548 ?_
  refine w_iload3 dL_law_549 ?_
  refine wp_iconst dL_law_550 ?_
  refine wp_iadd dL_law_551 ?_
  refine wp_sld dL_law_552 ⟨by omega, by omega⟩ hL ?_
  refine w_aload0 dL_law_553 ?_
  refine w_iload3 dL_law_554 ?_
  refine wp_iconst dL_law_555 ?_
  refine wp_iadd dL_law_556 ?_
  refine wp_sld dL_law_557 ⟨by omega, by omega⟩ hL ?_
  refine w_aload0 dL_law_558 ?_
  refine w_iload3 dL_law_559 ?_
  refine wp_iconst dL_law_560 ?_
  refine wp_iadd dL_law_561 ?_
  refine wp_sld dL_law_562 ⟨by omega, by omega⟩ hL ?_
  refine w_aload0 dL_law_563 ?_
  refine w_iload3 dL_law_564 ?_
  refine wp_bipush dL_law_565 (by decide) ?_
  refine wp_iadd dL_law_567 ?_
  refine wp_sld dL_law_568 ⟨by omega, by omega⟩ hL ?_
  refine l_ci (As := [vI (xs ((i : Int) + 1).toNat).toInt, vI (xs ((i : Int) + 2).toNat).toInt, vI (xs ((i : Int) + 3).toNat).toInt, vI (xs ((i : Int) + 4).toNat).toInt, vI (xs ((i : Int) + 5).toNat).toInt, vI (xs ((i : Int) + 6).toNat).toInt]) (rest := []) (np := 6) dL_law_569 lk_R_law0_55 mvX9_combine rfl (by decide) is_1 (Nat.le_of_ble_eq_true rfl) rfl (t_X9_combine H (z32 _) (z32 _) (z32 _) (z32 _) (z32 _) (z32 _)) (fun r1 h1 hP1 => ?_)
  obtain ⟨er1, W1, X1⟩ := hP1
  have V1 := zBo_1 V X1
  refine w_aload2 dL_law_572 ?_
  refine w_aload0 dL_law_573 ?_
  refine w_iload3 dL_law_574 ?_
  refine wp_iconst dL_law_575 ?_
  refine wp_iadd dL_law_576 ?_
  refine wp_sld dL_law_577 ⟨by omega, by omega⟩ hL ?_
  refine w_aload0 dL_law_578 ?_
  refine w_iload3 dL_law_579 ?_
  refine wp_iconst dL_law_580 ?_
  refine wp_iadd dL_law_581 ?_
  refine wp_sld dL_law_582 ⟨by omega, by omega⟩ hL ?_
  refine w_aload0 dL_law_583 ?_
  refine w_iload3 dL_law_584 ?_
  refine wp_iconst dL_law_585 ?_
  refine wp_iadd dL_law_586 ?_
  refine wp_sld dL_law_587 ⟨by omega, by omega⟩ hL ?_
  refine w_aload0 dL_law_588 ?_
  refine w_iload3 dL_law_589 ?_
  refine wp_iconst dL_law_590 ?_
  refine wp_iadd dL_law_591 ?_
  refine wp_sld dL_law_592 ⟨by omega, by omega⟩ hL ?_
  refine w_aload0 dL_law_593 ?_
  refine w_iload3 dL_law_594 ?_
  refine wp_iconst dL_law_595 ?_
  refine wp_iadd dL_law_596 ?_
  refine wp_sld dL_law_597 ⟨by omega, by omega⟩ hL ?_
  refine w_aload0 dL_law_598 ?_
  refine w_iload3 dL_law_599 ?_
  refine wp_bipush dL_law_600 (by decide) ?_
  refine wp_iadd dL_law_602 ?_
  refine wp_sld dL_law_603 ⟨by omega, by omega⟩ hL ?_
  refine l_ci (As := [vI (xs ((i : Int) + 1).toNat).toInt, vI (xs ((i : Int) + 2).toNat).toInt, vI (xs ((i : Int) + 3).toNat).toInt, vI (xs ((i : Int) + 4).toNat).toInt, vI (xs ((i : Int) + 5).toNat).toInt, vI (xs ((i : Int) + 6).toNat).toInt]) (rest := [vI r1]) (np := 6) dL_law_604 lk_R_law0_59 mvX10_combine rfl (by decide) is_445 (Nat.le_of_ble_eq_true rfl) rfl (t_X10_combine V1 (z32 _) (z32 _) (z32 _) (z32 _) (z32 _) (z32 _)) (fun r2 h2 hP2 => ?_)
  obtain ⟨er2, V2, X2⟩ := hP2
  have er : r2 = r1 := er2.trans er1.symm
  subst er
  have Bo := zBo_2 W1 V2 (fun a j ha => X2 a j (Or.inl ha))
  refine wp_icmp_eqs 1377 dL_law_607 rfl ?_
  exact kk _ _ Bo
set_option maxRecDepth 100000 in
set_option maxHeartbeats 4000000 in
theorem law_10 {L : Nat} {xs : Nat → Int32} (hL : L ≤ 3584) {i : Nat} (hi : i + 7 ≤ L) {p : Int} {c : Nat → Nat → Int} {hs : List (Int × (Nat → Nat → Int))} {tx : Nat → Int} {T : Nat} {h : zH} (H : zWd p c hs tx T h) (V : zVd p c hs tx T h) (kk : ∀ (s : zS) (h : zH), zBo s h → WP (mlaw L xs) zLQ 1377 [some (vR 1000), some (vR 1), some (vR 445), some (vI (i : Int))] [] zN zGR h) : WP (mlaw L xs) zLQ 612 [some (vR 1000), some (vR 1), some (vR 445), some (vI (i : Int))] [] zN zGR h := by
  refine w_aload1 dL_law_612 ?_
  refine w_aload0 dL_law_613 ?_
  refine w_iload3 dL_law_614 ?_
  refine wp_iconst dL_law_615 ?_
  refine wp_iadd dL_law_616 ?_
  refine wp_sld dL_law_617 ⟨by omega, by omega⟩ hL ?_
  refine l_ci (As := [vI (xs ((i : Int) + 1).toNat).toInt]) (rest := []) (np := 1) dL_law_618 lk_R_law0_60 mvX9_shift rfl (by decide) is_1 (Nat.le_of_ble_eq_true rfl) rfl (t_X9_shift H (z32 _)) (fun r1 h1 hP1 => ?_)
  obtain ⟨er1, W1, X1⟩ := hP1
  have V1 := zBo_1 V X1
  refine w_aload2 dL_law_621 ?_
  refine w_aload0 dL_law_622 ?_
  refine w_iload3 dL_law_623 ?_
  refine wp_iconst dL_law_624 ?_
  refine wp_iadd dL_law_625 ?_
  refine wp_sld dL_law_626 ⟨by omega, by omega⟩ hL ?_
  refine l_ci (As := [vI (xs ((i : Int) + 1).toNat).toInt]) (rest := [vI r1]) (np := 1) dL_law_627 lk_R_law0_63 mvX10_shift rfl (by decide) is_445 (Nat.le_of_ble_eq_true rfl) rfl (t_X10_shift V1 (z32 _)) (fun r2 h2 hP2 => ?_)
  obtain ⟨er2, V2, X2⟩ := hP2
  have er : r2 = r1 := er2.trans er1.symm
  subst er
  have Bo := zBo_2 W1 V2 (fun a j ha => X2 a j (Or.inl ha))
  refine wp_icmp_eqs 1377 dL_law_630 rfl ?_
  exact kk _ _ Bo
set_option maxRecDepth 100000 in
set_option maxHeartbeats 4000000 in
theorem law_11 {L : Nat} {xs : Nat → Int32} (hL : L ≤ 3584) {i : Nat} (hi : i + 7 ≤ L) {p : Int} {c : Nat → Nat → Int} {hs : List (Int × (Nat → Nat → Int))} {tx : Nat → Int} {T : Nat} {h : zH} (H : zWd p c hs tx T h) (V : zVd p c hs tx T h) (kk : ∀ (s : zS) (h : zH), zBo s h → WP (mlaw L xs) zLQ 1377 [some (vR 1000), some (vR 1), some (vR 445), some (vI (i : Int))] [] zN zGR h) : WP (mlaw L xs) zLQ 635 [some (vR 1000), some (vR 1), some (vR 445), some (vI (i : Int))] [] zN zGR h := by
  refine w_aload1 dL_law_635 ?_
  refine w_aload0 dL_law_636 ?_
  refine w_iload3 dL_law_637 ?_
  refine wp_iconst dL_law_638 ?_
  refine wp_iadd dL_law_639 ?_
  refine wp_sld dL_law_640 ⟨by omega, by omega⟩ hL ?_
  refine w_aload0 dL_law_641 ?_
  refine w_iload3 dL_law_642 ?_
  refine wp_iconst dL_law_643 ?_
  refine wp_iadd dL_law_644 ?_
  refine wp_sld dL_law_645 ⟨by omega, by omega⟩ hL ?_
  refine w_aload0 dL_law_646 ?_
  refine w_iload3 dL_law_647 ?_
  refine wp_iconst dL_law_648 ?_
  refine wp_iadd dL_law_649 ?_
  refine wp_sld dL_law_650 ⟨by omega, by omega⟩ hL ?_
  refine w_aload0 dL_law_651 ?_
  refine w_iload3 dL_law_652 ?_
  refine wp_iconst dL_law_653 ?_
  refine wp_iadd dL_law_654 ?_
  refine wp_sld dL_law_655 ⟨by omega, by omega⟩ hL ?_
  refine l_ci (As := [vI (xs ((i : Int) + 1).toNat).toInt, vI (xs ((i : Int) + 2).toNat).toInt, vI (xs ((i : Int) + 3).toNat).toInt, vI (xs ((i : Int) + 4).toNat).toInt]) (rest := []) (np := 4) dL_law_656 lk_R_law0_64 mvX9_value rfl (by decide) is_1 (Nat.le_of_ble_eq_true rfl) rfl (t_X9_value H (z32 _) (z32 _) (z32 _) (z32 _)) (fun r1 h1 hP1 => ?_)
  obtain ⟨er1, W1, X1⟩ := hP1
  have V1 := zBo_1 V X1
  refine w_aload2 dL_law_659 ?_
  refine w_aload0 dL_law_660 ?_
  refine w_iload3 dL_law_661 ?_
  refine wp_iconst dL_law_662 ?_
  refine wp_iadd dL_law_663 ?_
  refine wp_sld dL_law_664 ⟨by omega, by omega⟩ hL ?_
  refine w_aload0 dL_law_665 ?_
  refine w_iload3 dL_law_666 ?_
  refine wp_iconst dL_law_667 ?_
  refine wp_iadd dL_law_668 ?_
  refine wp_sld dL_law_669 ⟨by omega, by omega⟩ hL ?_
  refine w_aload0 dL_law_670 ?_
  refine w_iload3 dL_law_671 ?_
  refine wp_iconst dL_law_672 ?_
  refine wp_iadd dL_law_673 ?_
  refine wp_sld dL_law_674 ⟨by omega, by omega⟩ hL ?_
  refine w_aload0 dL_law_675 ?_
  refine w_iload3 dL_law_676 ?_
  refine wp_iconst dL_law_677 ?_
  refine wp_iadd dL_law_678 ?_
  refine wp_sld dL_law_679 ⟨by omega, by omega⟩ hL ?_
  refine l_ci (As := [vI (xs ((i : Int) + 1).toNat).toInt, vI (xs ((i : Int) + 2).toNat).toInt, vI (xs ((i : Int) + 3).toNat).toInt, vI (xs ((i : Int) + 4).toNat).toInt]) (rest := [vI r1]) (np := 4) dL_law_680 lk_R_law0_67 mvX10_value rfl (by decide) is_445 (Nat.le_of_ble_eq_true rfl) rfl (t_X10_value V1 (z32 _) (z32 _) (z32 _) (z32 _)) (fun r2 h2 hP2 => ?_)
  obtain ⟨er2, V2, X2⟩ := hP2
  have er : r2 = r1 := er2.trans er1.symm
  subst er
  have Bo := zBo_2 W1 V2 (fun a j ha => X2 a j (Or.inl ha))
  refine wp_icmp_eqs 1377 dL_law_683 rfl ?_
  exact kk _ _ Bo
set_option maxRecDepth 100000 in
set_option maxHeartbeats 4000000 in
theorem law_12 {L : Nat} {xs : Nat → Int32} (hL : L ≤ 3584) {i : Nat} (hi : i + 7 ≤ L) {p : Int} {c : Nat → Nat → Int} {hs : List (Int × (Nat → Nat → Int))} {tx : Nat → Int} {T : Nat} {h : zH} (H : zWd p c hs tx T h) (V : zVd p c hs tx T h) (kk : ∀ (s : zS) (h : zH), zBo s h → WP (mlaw L xs) zLQ 1377 [some (vR 1000), some (vR 1), some (vR 445), some (vI (i : Int))] [] zN zGR h) : WP (mlaw L xs) zLQ 688 [some (vR 1000), some (vR 1), some (vR 445), some (vI (i : Int))] [] zN zGR h := by
  refine w_aload1 dL_law_688 ?_
  refine w_aload0 dL_law_689 ?_
  refine w_iload3 dL_law_690 ?_
  refine wp_iconst dL_law_691 ?_
  refine wp_iadd dL_law_692 ?_
  refine wp_sld dL_law_693 ⟨by omega, by omega⟩ hL ?_
  refine w_aload0 dL_law_694 ?_
  refine w_iload3 dL_law_695 ?_
  refine wp_iconst dL_law_696 ?_
  refine wp_iadd dL_law_697 ?_
  refine wp_sld dL_law_698 ⟨by omega, by omega⟩ hL ?_
  refine l_ci (As := [vI (xs ((i : Int) + 1).toNat).toInt, vI (xs ((i : Int) + 2).toNat).toInt]) (rest := []) (np := 2) dL_law_699 lk_R_law0_68 mvX9_degree rfl (by decide) is_1 (Nat.le_of_ble_eq_true rfl) rfl (t_X9_degree H (z32 _) (z32 _)) (fun r1 h1 hP1 => ?_)
  obtain ⟨er1, W1, X1⟩ := hP1
  have V1 := zBo_1 V X1
  refine w_aload2 dL_law_702 ?_
  refine w_aload0 dL_law_703 ?_
  refine w_iload3 dL_law_704 ?_
  refine wp_iconst dL_law_705 ?_
  refine wp_iadd dL_law_706 ?_
  refine wp_sld dL_law_707 ⟨by omega, by omega⟩ hL ?_
  refine w_aload0 dL_law_708 ?_
  refine w_iload3 dL_law_709 ?_
  refine wp_iconst dL_law_710 ?_
  refine wp_iadd dL_law_711 ?_
  refine wp_sld dL_law_712 ⟨by omega, by omega⟩ hL ?_
  refine l_ci (As := [vI (xs ((i : Int) + 1).toNat).toInt, vI (xs ((i : Int) + 2).toNat).toInt]) (rest := [vI r1]) (np := 2) dL_law_713 lk_R_law0_71 mvX10_degree rfl (by decide) is_445 (Nat.le_of_ble_eq_true rfl) rfl (t_X10_degree V1 (z32 _) (z32 _)) (fun r2 h2 hP2 => ?_)
  obtain ⟨er2, V2, X2⟩ := hP2
  have er : r2 = r1 := er2.trans er1.symm
  subst er
  have Bo := zBo_2 W1 V2 (fun a j ha => X2 a j (Or.inl ha))
  refine wp_icmp_eqs 1377 dL_law_716 rfl ?_
  exact kk _ _ Bo
set_option maxRecDepth 100000 in
set_option maxHeartbeats 4000000 in
theorem law_13 {L : Nat} {xs : Nat → Int32} (hL : L ≤ 3584) {i : Nat} (hi : i + 7 ≤ L) {p : Int} {c : Nat → Nat → Int} {hs : List (Int × (Nat → Nat → Int))} {tx : Nat → Int} {T : Nat} {h : zH} (H : zWd p c hs tx T h) (V : zVd p c hs tx T h) (kk : ∀ (s : zS) (h : zH), zBo s h → WP (mlaw L xs) zLQ 1377 [some (vR 1000), some (vR 1), some (vR 445), some (vI (i : Int))] [] zN zGR h) : WP (mlaw L xs) zLQ 721 [some (vR 1000), some (vR 1), some (vR 445), some (vI (i : Int))] [] zN zGR h := by
  refine w_aload1 dL_law_721 ?_
  refine w_aload0 dL_law_722 ?_
  refine w_iload3 dL_law_723 ?_
  refine wp_iconst dL_law_724 ?_
  refine wp_iadd dL_law_725 ?_
  refine wp_sld dL_law_726 ⟨by omega, by omega⟩ hL ?_
  refine w_aload0 dL_law_727 ?_
  refine w_iload3 dL_law_728 ?_
  refine wp_iconst dL_law_729 ?_
  refine wp_iadd dL_law_730 ?_
  refine wp_sld dL_law_731 ⟨by omega, by omega⟩ hL ?_
  refine w_aload0 dL_law_732 ?_
  refine w_iload3 dL_law_733 ?_
  refine wp_iconst dL_law_734 ?_
  refine wp_iadd dL_law_735 ?_
  refine wp_sld dL_law_736 ⟨by omega, by omega⟩ hL ?_
  refine l_ci (As := [vI (xs ((i : Int) + 1).toNat).toInt, vI (xs ((i : Int) + 2).toNat).toInt, vI (xs ((i : Int) + 3).toNat).toInt]) (rest := []) (np := 3) dL_law_737 lk_R_law0_72 mvX9_degreeAt rfl (by decide) is_1 (Nat.le_of_ble_eq_true rfl) rfl (t_X9_degreeAt H (z32 _) (z32 _) (z32 _)) (fun r1 h1 hP1 => ?_)
  obtain ⟨er1, W1, X1⟩ := hP1
  have V1 := zBo_1 V X1
  refine w_aload2 dL_law_740 ?_
  refine w_aload0 dL_law_741 ?_
  refine w_iload3 dL_law_742 ?_
  refine wp_iconst dL_law_743 ?_
  refine wp_iadd dL_law_744 ?_
  refine wp_sld dL_law_745 ⟨by omega, by omega⟩ hL ?_
  refine w_aload0 dL_law_746 ?_
  refine w_iload3 dL_law_747 ?_
  refine wp_iconst dL_law_748 ?_
  refine wp_iadd dL_law_749 ?_
  refine wp_sld dL_law_750 ⟨by omega, by omega⟩ hL ?_
  refine w_aload0 dL_law_751 ?_
  refine w_iload3 dL_law_752 ?_
  refine wp_iconst dL_law_753 ?_
  refine wp_iadd dL_law_754 ?_
  refine wp_sld dL_law_755 ⟨by omega, by omega⟩ hL ?_
  refine l_ci (As := [vI (xs ((i : Int) + 1).toNat).toInt, vI (xs ((i : Int) + 2).toNat).toInt, vI (xs ((i : Int) + 3).toNat).toInt]) (rest := [vI r1]) (np := 3) dL_law_756 lk_R_law0_75 mvX10_degreeAt rfl (by decide) is_445 (Nat.le_of_ble_eq_true rfl) rfl (t_X10_degreeAt V1 (z32 _) (z32 _) (z32 _)) (fun r2 h2 hP2 => ?_)
  obtain ⟨er2, V2, X2⟩ := hP2
  have er : r2 = r1 := er2.trans er1.symm
  subst er
  have Bo := zBo_2 W1 V2 (fun a j ha => X2 a j (Or.inl ha))
  refine wp_icmp_eqs 1377 dL_law_759 rfl ?_
  exact kk _ _ Bo
set_option maxRecDepth 100000 in
set_option maxHeartbeats 4000000 in
theorem law_14 {L : Nat} {xs : Nat → Int32} (hL : L ≤ 3584) {i : Nat} (hi : i + 7 ≤ L) {p : Int} {c : Nat → Nat → Int} {hs : List (Int × (Nat → Nat → Int))} {tx : Nat → Int} {T : Nat} {h : zH} (H : zWd p c hs tx T h) (V : zVd p c hs tx T h) (kk : ∀ (s : zS) (h : zH), zBo s h → WP (mlaw L xs) zLQ 1377 [some (vR 1000), some (vR 1), some (vR 445), some (vI (i : Int))] [] zN zGR h) : WP (mlaw L xs) zLQ 764 [some (vR 1000), some (vR 1), some (vR 445), some (vI (i : Int))] [] zN zGR h := by
  refine w_aload1 dL_law_764 ?_
  refine l_ci (As := []) (rest := []) (np := 0) dL_law_765 lk_R_law0_76 mvX9_degreeDrops rfl (by decide) is_1 (Nat.le_of_ble_eq_true rfl) rfl (t_X9_degreeDrops H ) (fun r1 h1 hP1 => ?_)
  obtain ⟨er1, W1, X1⟩ := hP1
  have V1 := zBo_1 V X1
  refine w_aload2 dL_law_768 ?_
  refine l_ci (As := []) (rest := [vI r1]) (np := 0) dL_law_769 lk_R_law0_79 mvX10_degreeDrops rfl (by decide) is_445 (Nat.le_of_ble_eq_true rfl) rfl (t_X10_degreeDrops V1 ) (fun r2 h2 hP2 => ?_)
  obtain ⟨er2, V2, X2⟩ := hP2
  have er : r2 = r1 := er2.trans er1.symm
  subst er
  have Bo := zBo_2 W1 V2 (fun a j ha => X2 a j (Or.inl ha))
  refine wp_icmp_eqs 1377 dL_law_772 rfl ?_
  exact kk _ _ Bo
set_option maxRecDepth 100000 in
set_option maxHeartbeats 4000000 in
theorem law_15 {L : Nat} {xs : Nat → Int32} (hL : L ≤ 3584) {i : Nat} (hi : i + 7 ≤ L) {p : Int} {c : Nat → Nat → Int} {hs : List (Int × (Nat → Nat → Int))} {tx : Nat → Int} {T : Nat} {h : zH} (H : zWd p c hs tx T h) (V : zVd p c hs tx T h) (kk : ∀ (s : zS) (h : zH), zBo s h → WP (mlaw L xs) zLQ 1377 [some (vR 1000), some (vR 1), some (vR 445), some (vI (i : Int))] [] zN zGR h) : WP (mlaw L xs) zLQ 777 [some (vR 1000), some (vR 1), some (vR 445), some (vI (i : Int))] [] zN zGR h := by
  refine w_aload1 dL_law_777 ?_
  refine l_ci (As := []) (rest := []) (np := 0) dL_law_778 lk_R_law0_80 mvX9_size rfl (by decide) is_1 (Nat.le_of_ble_eq_true rfl) rfl (t_X9_size H ) (fun r1 h1 hP1 => ?_)
  obtain ⟨er1, W1, X1⟩ := hP1
  have V1 := zBo_1 V X1
  refine w_aload2 dL_law_781 ?_
  refine l_ci (As := []) (rest := [vI r1]) (np := 0) dL_law_782 lk_R_law0_83 mvX10_size rfl (by decide) is_445 (Nat.le_of_ble_eq_true rfl) rfl (t_X10_size V1 ) (fun r2 h2 hP2 => ?_)
  obtain ⟨er2, V2, X2⟩ := hP2
  have er : r2 = r1 := er2.trans er1.symm
  subst er
  have Bo := zBo_2 W1 V2 (fun a j ha => X2 a j (Or.inl ha))
  refine wp_icmp_eqs 1377 dL_law_785 rfl ?_
  exact kk _ _ Bo
set_option maxRecDepth 100000 in
set_option maxHeartbeats 4000000 in
theorem law_16 {L : Nat} {xs : Nat → Int32} (hL : L ≤ 3584) {i : Nat} (hi : i + 7 ≤ L) {p : Int} {c : Nat → Nat → Int} {hs : List (Int × (Nat → Nat → Int))} {tx : Nat → Int} {T : Nat} {h : zH} (H : zWd p c hs tx T h) (V : zVd p c hs tx T h) (kk : ∀ (s : zS) (h : zH), zBo s h → WP (mlaw L xs) zLQ 1377 [some (vR 1000), some (vR 1), some (vR 445), some (vI (i : Int))] [] zN zGR h) : WP (mlaw L xs) zLQ 790 [some (vR 1000), some (vR 1), some (vR 445), some (vI (i : Int))] [] zN zGR h := by
  refine w_aload1 dL_law_790 ?_
  refine w_aload0 dL_law_791 ?_
  refine w_iload3 dL_law_792 ?_
  refine wp_iconst dL_law_793 ?_
  refine wp_iadd dL_law_794 ?_
  refine wp_sld dL_law_795 ⟨by omega, by omega⟩ hL ?_
  refine w_aload0 dL_law_796 ?_
  refine w_iload3 dL_law_797 ?_
  refine wp_iconst dL_law_798 ?_
  refine wp_iadd dL_law_799 ?_
  refine wp_sld dL_law_800 ⟨by omega, by omega⟩ hL ?_
  refine w_aload0 dL_law_801 ?_
  refine w_iload3 dL_law_802 ?_
  refine wp_iconst dL_law_803 ?_
  refine wp_iadd dL_law_804 ?_
  refine wp_sld dL_law_805 ⟨by omega, by omega⟩ hL ?_
  refine l_ci (As := [vI (xs ((i : Int) + 1).toNat).toInt, vI (xs ((i : Int) + 2).toNat).toInt, vI (xs ((i : Int) + 3).toNat).toInt]) (rest := []) (np := 3) dL_law_806 lk_R_law0_84 mvX9_entry rfl (by decide) is_1 (Nat.le_of_ble_eq_true rfl) rfl (t_X9_entry H (z32 _) (z32 _) (z32 _)) (fun r1 h1 hP1 => ?_)
  obtain ⟨er1, W1, X1⟩ := hP1
  have V1 := zBo_1 V X1
  refine w_aload2 dL_law_809 ?_
  refine w_aload0 dL_law_810 ?_
  refine w_iload3 dL_law_811 ?_
  refine wp_iconst dL_law_812 ?_
  refine wp_iadd dL_law_813 ?_
  refine wp_sld dL_law_814 ⟨by omega, by omega⟩ hL ?_
  refine w_aload0 dL_law_815 ?_
  refine w_iload3 dL_law_816 ?_
  refine wp_iconst dL_law_817 ?_
  refine wp_iadd dL_law_818 ?_
  refine wp_sld dL_law_819 ⟨by omega, by omega⟩ hL ?_
  refine w_aload0 dL_law_820 ?_
  refine w_iload3 dL_law_821 ?_
  refine wp_iconst dL_law_822 ?_
  refine wp_iadd dL_law_823 ?_
  refine wp_sld dL_law_824 ⟨by omega, by omega⟩ hL ?_
  refine l_ci (As := [vI (xs ((i : Int) + 1).toNat).toInt, vI (xs ((i : Int) + 2).toNat).toInt, vI (xs ((i : Int) + 3).toNat).toInt]) (rest := [vI r1]) (np := 3) dL_law_825 lk_R_law0_87 mvX10_entry rfl (by decide) is_445 (Nat.le_of_ble_eq_true rfl) rfl (t_X10_entry V1 (z32 _) (z32 _) (z32 _)) (fun r2 h2 hP2 => ?_)
  obtain ⟨er2, V2, X2⟩ := hP2
  have er : r2 = r1 := er2.trans er1.symm
  subst er
  have Bo := zBo_2 W1 V2 (fun a j ha => X2 a j (Or.inl ha))
  refine wp_icmp_eqs 1377 dL_law_828 rfl ?_
  exact kk _ _ Bo
set_option maxRecDepth 100000 in
set_option maxHeartbeats 4000000 in
theorem law_17 {L : Nat} {xs : Nat → Int32} (hL : L ≤ 3584) {i : Nat} (hi : i + 7 ≤ L) {p : Int} {c : Nat → Nat → Int} {hs : List (Int × (Nat → Nat → Int))} {tx : Nat → Int} {T : Nat} {h : zH} (H : zWd p c hs tx T h) (V : zVd p c hs tx T h) (kk : ∀ (s : zS) (h : zH), zBo s h → WP (mlaw L xs) zLQ 1377 [some (vR 1000), some (vR 1), some (vR 445), some (vI (i : Int))] [] zN zGR h) : WP (mlaw L xs) zLQ 833 [some (vR 1000), some (vR 1), some (vR 445), some (vI (i : Int))] [] zN zGR h := by
  refine w_aload1 dL_law_833 ?_
  refine w_aload0 dL_law_834 ?_
  refine w_iload3 dL_law_835 ?_
  refine wp_iconst dL_law_836 ?_
  refine wp_iadd dL_law_837 ?_
  refine wp_sld dL_law_838 ⟨by omega, by omega⟩ hL ?_
  refine w_aload0 dL_law_839 ?_
  refine w_iload3 dL_law_840 ?_
  refine wp_iconst dL_law_841 ?_
  refine wp_iadd dL_law_842 ?_
  refine wp_sld dL_law_843 ⟨by omega, by omega⟩ hL ?_
  refine w_aload0 dL_law_844 ?_
  refine w_iload3 dL_law_845 ?_
  refine wp_iconst dL_law_846 ?_
  refine wp_iadd dL_law_847 ?_
  refine wp_sld dL_law_848 ⟨by omega, by omega⟩ hL ?_
  refine l_ci (As := [vI (xs ((i : Int) + 1).toNat).toInt, vI (xs ((i : Int) + 2).toNat).toInt, vI (xs ((i : Int) + 3).toNat).toInt]) (rest := []) (np := 3) dL_law_849 lk_R_law0_88 mvX9_entryAt rfl (by decide) is_1 (Nat.le_of_ble_eq_true rfl) rfl (t_X9_entryAt H (z32 _) (z32 _) (z32 _)) (fun r1 h1 hP1 => ?_)
  obtain ⟨er1, W1, X1⟩ := hP1
  have V1 := zBo_1 V X1
  refine w_aload2 dL_law_852 ?_
  refine w_aload0 dL_law_853 ?_
  refine w_iload3 dL_law_854 ?_
  refine wp_iconst dL_law_855 ?_
  refine wp_iadd dL_law_856 ?_
  refine wp_sld dL_law_857 ⟨by omega, by omega⟩ hL ?_
  refine w_aload0 dL_law_858 ?_
  refine w_iload3 dL_law_859 ?_
  refine wp_iconst dL_law_860 ?_
  refine wp_iadd dL_law_861 ?_
  refine wp_sld dL_law_862 ⟨by omega, by omega⟩ hL ?_
  refine w_aload0 dL_law_863 ?_
  refine w_iload3 dL_law_864 ?_
  refine wp_iconst dL_law_865 ?_
  refine wp_iadd dL_law_866 ?_
  refine wp_sld dL_law_867 ⟨by omega, by omega⟩ hL ?_
  refine l_ci (As := [vI (xs ((i : Int) + 1).toNat).toInt, vI (xs ((i : Int) + 2).toNat).toInt, vI (xs ((i : Int) + 3).toNat).toInt]) (rest := [vI r1]) (np := 3) dL_law_868 lk_R_law0_91 mvX10_entryAt rfl (by decide) is_445 (Nat.le_of_ble_eq_true rfl) rfl (t_X10_entryAt V1 (z32 _) (z32 _) (z32 _)) (fun r2 h2 hP2 => ?_)
  obtain ⟨er2, V2, X2⟩ := hP2
  have er : r2 = r1 := er2.trans er1.symm
  subst er
  have Bo := zBo_2 W1 V2 (fun a j ha => X2 a j (Or.inl ha))
  refine wp_icmp_eqs 1377 dL_law_871 rfl ?_
  exact kk _ _ Bo
set_option maxRecDepth 100000 in
set_option maxHeartbeats 4000000 in
theorem law_18 {L : Nat} {xs : Nat → Int32} (hL : L ≤ 3584) {i : Nat} (hi : i + 7 ≤ L) {p : Int} {c : Nat → Nat → Int} {hs : List (Int × (Nat → Nat → Int))} {tx : Nat → Int} {T : Nat} {h : zH} (H : zWd p c hs tx T h) (V : zVd p c hs tx T h) (kk : ∀ (s : zS) (h : zH), zBo s h → WP (mlaw L xs) zLQ 1377 [some (vR 1000), some (vR 1), some (vR 445), some (vI (i : Int))] [] zN zGR h) : WP (mlaw L xs) zLQ 876 [some (vR 1000), some (vR 1), some (vR 445), some (vI (i : Int))] [] zN zGR h := by
  refine w_aload1 dL_law_876 ?_
  refine w_aload0 dL_law_877 ?_
  refine w_iload3 dL_law_878 ?_
  refine wp_iconst dL_law_879 ?_
  refine wp_iadd dL_law_880 ?_
  refine wp_sld dL_law_881 ⟨by omega, by omega⟩ hL ?_
  refine l_ci (As := [vI (xs ((i : Int) + 1).toNat).toInt]) (rest := []) (np := 1) dL_law_882 lk_R_law0_92 mvX9_rankAt rfl (by decide) is_1 (Nat.le_of_ble_eq_true rfl) rfl (t_X9_rankAt H (z32 _)) (fun r1 h1 hP1 => ?_)
  obtain ⟨er1, W1, X1⟩ := hP1
  have V1 := zBo_1 V X1
  refine w_aload2 dL_law_885 ?_
  refine w_aload0 dL_law_886 ?_
  refine w_iload3 dL_law_887 ?_
  refine wp_iconst dL_law_888 ?_
  refine wp_iadd dL_law_889 ?_
  refine wp_sld dL_law_890 ⟨by omega, by omega⟩ hL ?_
  refine l_ci (As := [vI (xs ((i : Int) + 1).toNat).toInt]) (rest := [vI r1]) (np := 1) dL_law_891 lk_R_law0_95 mvX10_rankAt rfl (by decide) is_445 (Nat.le_of_ble_eq_true rfl) rfl (t_X10_rankAt V1 (z32 _)) (fun r2 h2 hP2 => ?_)
  obtain ⟨er2, V2, X2⟩ := hP2
  have er : r2 = r1 := er2.trans er1.symm
  subst er
  have Bo := zBo_2 W1 V2 (fun a j ha => X2 a j (Or.inl ha))
  refine wp_icmp_eqs 1377 dL_law_894 rfl ?_
  exact kk _ _ Bo
set_option maxRecDepth 100000 in
set_option maxHeartbeats 4000000 in
theorem law_19 {L : Nat} {xs : Nat → Int32} (hL : L ≤ 3584) {i : Nat} (hi : i + 7 ≤ L) {p : Int} {c : Nat → Nat → Int} {hs : List (Int × (Nat → Nat → Int))} {tx : Nat → Int} {T : Nat} {h : zH} (H : zWd p c hs tx T h) (V : zVd p c hs tx T h) (kk : ∀ (s : zS) (h : zH), zBo s h → WP (mlaw L xs) zLQ 1377 [some (vR 1000), some (vR 1), some (vR 445), some (vI (i : Int))] [] zN zGR h) : WP (mlaw L xs) zLQ 899 [some (vR 1000), some (vR 1), some (vR 445), some (vI (i : Int))] [] zN zGR h := by
  refine w_aload1 dL_law_899 ?_
  refine l_ci (As := []) (rest := []) (np := 0) dL_law_900 lk_R_law0_96 mvX9_rank rfl (by decide) is_1 (Nat.le_of_ble_eq_true rfl) rfl (t_X9_rank H ) (fun r1 h1 hP1 => ?_)
  obtain ⟨er1, W1, X1⟩ := hP1
  have V1 := zBo_1 V X1
  refine w_aload2 dL_law_903 ?_
  refine l_ci (As := []) (rest := [vI r1]) (np := 0) dL_law_904 lk_R_law0_99 mvX10_rank rfl (by decide) is_445 (Nat.le_of_ble_eq_true rfl) rfl (t_X10_rank V1 ) (fun r2 h2 hP2 => ?_)
  obtain ⟨er2, V2, X2⟩ := hP2
  have er : r2 = r1 := er2.trans er1.symm
  subst er
  have Bo := zBo_2 W1 V2 (fun a j ha => X2 a j (Or.inl ha))
  refine wp_icmp_eqs 1377 dL_law_907 rfl ?_
  exact kk _ _ Bo
set_option maxRecDepth 100000 in
set_option maxHeartbeats 4000000 in
theorem law_20 {L : Nat} {xs : Nat → Int32} (hL : L ≤ 3584) {i : Nat} (hi : i + 7 ≤ L) {p : Int} {c : Nat → Nat → Int} {hs : List (Int × (Nat → Nat → Int))} {tx : Nat → Int} {T : Nat} {h : zH} (H : zWd p c hs tx T h) (V : zVd p c hs tx T h) (kk : ∀ (s : zS) (h : zH), zBo s h → WP (mlaw L xs) zLQ 1377 [some (vR 1000), some (vR 1), some (vR 445), some (vI (i : Int))] [] zN zGR h) : WP (mlaw L xs) zLQ 912 [some (vR 1000), some (vR 1), some (vR 445), some (vI (i : Int))] [] zN zGR h := by
  refine w_aload1 dL_law_912 ?_
  refine l_ci (As := []) (rest := []) (np := 0) dL_law_913 lk_R_law0_100 mvX9_pivotPoint rfl (by decide) is_1 (Nat.le_of_ble_eq_true rfl) rfl (t_X9_pivotPoint H ) (fun r1 h1 hP1 => ?_)
  obtain ⟨er1, W1, X1⟩ := hP1
  have V1 := zBo_1 V X1
  refine w_aload2 dL_law_916 ?_
  refine l_ci (As := []) (rest := [vI r1]) (np := 0) dL_law_917 lk_R_law0_103 mvX10_pivotPoint rfl (by decide) is_445 (Nat.le_of_ble_eq_true rfl) rfl (t_X10_pivotPoint V1 ) (fun r2 h2 hP2 => ?_)
  obtain ⟨er2, V2, X2⟩ := hP2
  have er : r2 = r1 := er2.trans er1.symm
  subst er
  have Bo := zBo_2 W1 V2 (fun a j ha => X2 a j (Or.inl ha))
  refine wp_icmp_eqs 1377 dL_law_920 rfl ?_
  exact kk _ _ Bo
set_option maxRecDepth 100000 in
set_option maxHeartbeats 4000000 in
theorem law_21 {L : Nat} {xs : Nat → Int32} (hL : L ≤ 3584) {i : Nat} (hi : i + 7 ≤ L) {p : Int} {c : Nat → Nat → Int} {hs : List (Int × (Nat → Nat → Int))} {tx : Nat → Int} {T : Nat} {h : zH} (H : zWd p c hs tx T h) (V : zVd p c hs tx T h) (kk : ∀ (s : zS) (h : zH), zBo s h → WP (mlaw L xs) zLQ 1377 [some (vR 1000), some (vR 1), some (vR 445), some (vI (i : Int))] [] zN zGR h) : WP (mlaw L xs) zLQ 925 [some (vR 1000), some (vR 1), some (vR 445), some (vI (i : Int))] [] zN zGR h := by
  refine w_aload1 dL_law_925 ?_
  refine w_aload0 dL_law_926 ?_
  refine w_iload3 dL_law_927 ?_
  refine wp_iconst dL_law_928 ?_
  refine wp_iadd dL_law_929 ?_
  refine wp_sld dL_law_930 ⟨by omega, by omega⟩ hL ?_
  refine wp_if_eq 938 dL_law_931 rfl (z32 _) (fun cb1 => ?_) (fun cb1 => ?_)
  · skip
    refine wp_iconst dL_law_938 ?_
    refine l_ci (As := [vI 0]) (rest := []) (np := 1) dL_law_939 lk_R_law0_104 mvX9_selected rfl (by decide) is_1 (Nat.le_of_ble_eq_true rfl) rfl (t_X9_selected H (Or.inl rfl)) (fun r1 h1 hP1 => ?_)
    obtain ⟨er1, W1, X1⟩ := hP1
    have V1 := zBo_1 V X1
    refine w_aload2 dL_law_942 ?_
    refine w_aload0 dL_law_943 ?_
    refine w_iload3 dL_law_944 ?_
    refine wp_iconst dL_law_945 ?_
    refine wp_iadd dL_law_946 ?_
    refine wp_sld dL_law_947 ⟨by omega, by omega⟩ hL ?_
    refine wp_if_eq 955 dL_law_948 rfl (z32 _) (fun q948 => ?_) (fun q948 => absurd cb1 q948)
    refine wp_iconst dL_law_955 ?_
    refine l_ci (As := [vI 0]) (rest := [vI r1]) (np := 1) dL_law_956 lk_R_law0_108 mvX10_selected rfl (by decide) is_445 (Nat.le_of_ble_eq_true rfl) rfl (t_X10_selected V1 (Or.inl rfl)) (fun r2 h2 hP2 => ?_)
    obtain ⟨er2, V2, X2⟩ := hP2
    have er : r2 = r1 := er2.trans er1.symm
    subst er
    have Bo := zBo_2 W1 V2 (fun a j ha => X2 a j (Or.inl ha))
    refine wp_icmp_eqs 1377 dL_law_959 rfl ?_
    exact kk _ _ Bo
  · skip
    refine wp_iconst dL_law_934 ?_
    refine wp_goto 939 dL_law_935 rfl ?_
    refine l_ci (As := [vI 1]) (rest := []) (np := 1) dL_law_939 lk_R_law0_104 mvX9_selected rfl (by decide) is_1 (Nat.le_of_ble_eq_true rfl) rfl (t_X9_selected H (Or.inr rfl)) (fun r1 h1 hP1 => ?_)
    obtain ⟨er1, W1, X1⟩ := hP1
    have V1 := zBo_1 V X1
    refine w_aload2 dL_law_942 ?_
    refine w_aload0 dL_law_943 ?_
    refine w_iload3 dL_law_944 ?_
    refine wp_iconst dL_law_945 ?_
    refine wp_iadd dL_law_946 ?_
    refine wp_sld dL_law_947 ⟨by omega, by omega⟩ hL ?_
    refine wp_if_eq 955 dL_law_948 rfl (z32 _) (fun q948 => absurd q948 cb1) (fun q948 => ?_)
    refine wp_iconst dL_law_951 ?_
    refine wp_goto 956 dL_law_952 rfl ?_
    refine l_ci (As := [vI 1]) (rest := [vI r1]) (np := 1) dL_law_956 lk_R_law0_108 mvX10_selected rfl (by decide) is_445 (Nat.le_of_ble_eq_true rfl) rfl (t_X10_selected V1 (Or.inr rfl)) (fun r2 h2 hP2 => ?_)
    obtain ⟨er2, V2, X2⟩ := hP2
    have er : r2 = r1 := er2.trans er1.symm
    subst er
    have Bo := zBo_2 W1 V2 (fun a j ha => X2 a j (Or.inl ha))
    refine wp_icmp_eqs 1377 dL_law_959 rfl ?_
    exact kk _ _ Bo
set_option maxRecDepth 100000 in
set_option maxHeartbeats 4000000 in
theorem law_22 {L : Nat} {xs : Nat → Int32} (hL : L ≤ 3584) {i : Nat} (hi : i + 7 ≤ L) {p : Int} {c : Nat → Nat → Int} {hs : List (Int × (Nat → Nat → Int))} {tx : Nat → Int} {T : Nat} {h : zH} (H : zWd p c hs tx T h) (V : zVd p c hs tx T h) (kk : ∀ (s : zS) (h : zH), zBo s h → WP (mlaw L xs) zLQ 1377 [some (vR 1000), some (vR 1), some (vR 445), some (vI (i : Int))] [] zN zGR h) : WP (mlaw L xs) zLQ 964 [some (vR 1000), some (vR 1), some (vR 445), some (vI (i : Int))] [] zN zGR h := by
  refine w_aload1 dL_law_964 ?_
  refine l_ci (As := []) (rest := []) (np := 0) dL_law_965 lk_R_law0_109 mvX9_rankDrops rfl (by decide) is_1 (Nat.le_of_ble_eq_true rfl) rfl (t_X9_rankDrops H ) (fun r1 h1 hP1 => ?_)
  obtain ⟨er1, W1, X1⟩ := hP1
  have V1 := zBo_1 V X1
  refine w_aload2 dL_law_968 ?_
  refine l_ci (As := []) (rest := [vI r1]) (np := 0) dL_law_969 lk_R_law0_112 mvX10_rankDrops rfl (by decide) is_445 (Nat.le_of_ble_eq_true rfl) rfl (t_X10_rankDrops V1 ) (fun r2 h2 hP2 => ?_)
  obtain ⟨er2, V2, X2⟩ := hP2
  have er : r2 = r1 := er2.trans er1.symm
  subst er
  have Bo := zBo_2 W1 V2 (fun a j ha => X2 a j (Or.inl ha))
  refine wp_icmp_eqs 1377 dL_law_972 rfl ?_
  exact kk _ _ Bo
set_option maxRecDepth 100000 in
set_option maxHeartbeats 4000000 in
theorem law_23 {L : Nat} {xs : Nat → Int32} (hL : L ≤ 3584) {i : Nat} (hi : i + 7 ≤ L) {p : Int} {c : Nat → Nat → Int} {hs : List (Int × (Nat → Nat → Int))} {tx : Nat → Int} {T : Nat} {h : zH} (H : zWd p c hs tx T h) (V : zVd p c hs tx T h) (kk : ∀ (s : zS) (h : zH), zBo s h → WP (mlaw L xs) zLQ 1377 [some (vR 1000), some (vR 1), some (vR 445), some (vI (i : Int))] [] zN zGR h) : WP (mlaw L xs) zLQ 977 [some (vR 1000), some (vR 1), some (vR 445), some (vI (i : Int))] [] zN zGR h := by
  refine w_aload1 dL_law_977 ?_
  refine l_ci (As := []) (rest := []) (np := 0) dL_law_978 lk_R_law0_113 mvX9_condition rfl (by decide) is_1 (Nat.le_of_ble_eq_true rfl) rfl (t_X9_condition H ) (fun r1 h1 hP1 => ?_)
  obtain ⟨er1, W1, X1⟩ := hP1
  have V1 := zBo_1 V X1
  refine w_aload2 dL_law_981 ?_
  refine l_ci (As := []) (rest := [vI r1]) (np := 0) dL_law_982 lk_R_law0_116 mvX10_condition rfl (by decide) is_445 (Nat.le_of_ble_eq_true rfl) rfl (t_X10_condition V1 ) (fun r2 h2 hP2 => ?_)
  obtain ⟨er2, V2, X2⟩ := hP2
  have er : r2 = r1 := er2.trans er1.symm
  subst er
  have Bo := zBo_2 W1 V2 (fun a j ha => X2 a j (Or.inl ha))
  refine wp_icmp_eqs 1377 dL_law_985 rfl ?_
  exact kk _ _ Bo
set_option maxRecDepth 100000 in
set_option maxHeartbeats 4000000 in
theorem law_24 {L : Nat} {xs : Nat → Int32} (hL : L ≤ 3584) {i : Nat} (hi : i + 7 ≤ L) {p : Int} {c : Nat → Nat → Int} {hs : List (Int × (Nat → Nat → Int))} {tx : Nat → Int} {T : Nat} {h : zH} (H : zWd p c hs tx T h) (V : zVd p c hs tx T h) (kk : ∀ (s : zS) (h : zH), zBo s h → WP (mlaw L xs) zLQ 1377 [some (vR 1000), some (vR 1), some (vR 445), some (vI (i : Int))] [] zN zGR h) : WP (mlaw L xs) zLQ 990 [some (vR 1000), some (vR 1), some (vR 445), some (vI (i : Int))] [] zN zGR h := by
  refine w_aload1 dL_law_990 ?_
  refine w_aload0 dL_law_991 ?_
  refine w_iload3 dL_law_992 ?_
  refine wp_iconst dL_law_993 ?_
  refine wp_iadd dL_law_994 ?_
  refine wp_sld dL_law_995 ⟨by omega, by omega⟩ hL ?_
  refine wp_if_eq 1003 dL_law_996 rfl (z32 _) (fun cb1 => ?_) (fun cb1 => ?_)
  · skip
    refine wp_iconst dL_law_1003 ?_
    refine l_ci (As := [vI 0]) (rest := []) (np := 1) dL_law_1004 lk_R_law0_117 mvX9_eliminantDegree rfl (by decide) is_1 (Nat.le_of_ble_eq_true rfl) rfl (t_X9_eliminantDegree H (Or.inl rfl)) (fun r1 h1 hP1 => ?_)
    obtain ⟨er1, W1, X1⟩ := hP1
    have V1 := zBo_1 V X1
    refine w_aload2 dL_law_1007 ?_
    refine w_aload0 dL_law_1008 ?_
    refine w_iload3 dL_law_1009 ?_
    refine wp_iconst dL_law_1010 ?_
    refine wp_iadd dL_law_1011 ?_
    refine wp_sld dL_law_1012 ⟨by omega, by omega⟩ hL ?_
    refine wp_if_eq 1020 dL_law_1013 rfl (z32 _) (fun q1013 => ?_) (fun q1013 => absurd cb1 q1013)
    refine wp_iconst dL_law_1020 ?_
    refine l_ci (As := [vI 0]) (rest := [vI r1]) (np := 1) dL_law_1021 lk_R_law0_120 mvX10_eliminantDegree rfl (by decide) is_445 (Nat.le_of_ble_eq_true rfl) rfl (t_X10_eliminantDegree V1 (Or.inl rfl)) (fun r2 h2 hP2 => ?_)
    obtain ⟨er2, V2, X2⟩ := hP2
    have er : r2 = r1 := er2.trans er1.symm
    subst er
    have Bo := zBo_2 W1 V2 (fun a j ha => X2 a j (Or.inl ha))
    refine wp_icmp_eqs 1377 dL_law_1024 rfl ?_
    exact kk _ _ Bo
  · skip
    refine wp_iconst dL_law_999 ?_
    refine wp_goto 1004 dL_law_1000 rfl ?_
    refine l_ci (As := [vI 1]) (rest := []) (np := 1) dL_law_1004 lk_R_law0_117 mvX9_eliminantDegree rfl (by decide) is_1 (Nat.le_of_ble_eq_true rfl) rfl (t_X9_eliminantDegree H (Or.inr rfl)) (fun r1 h1 hP1 => ?_)
    obtain ⟨er1, W1, X1⟩ := hP1
    have V1 := zBo_1 V X1
    refine w_aload2 dL_law_1007 ?_
    refine w_aload0 dL_law_1008 ?_
    refine w_iload3 dL_law_1009 ?_
    refine wp_iconst dL_law_1010 ?_
    refine wp_iadd dL_law_1011 ?_
    refine wp_sld dL_law_1012 ⟨by omega, by omega⟩ hL ?_
    refine wp_if_eq 1020 dL_law_1013 rfl (z32 _) (fun q1013 => absurd q1013 cb1) (fun q1013 => ?_)
    refine wp_iconst dL_law_1016 ?_
    refine wp_goto 1021 dL_law_1017 rfl ?_
    refine l_ci (As := [vI 1]) (rest := [vI r1]) (np := 1) dL_law_1021 lk_R_law0_120 mvX10_eliminantDegree rfl (by decide) is_445 (Nat.le_of_ble_eq_true rfl) rfl (t_X10_eliminantDegree V1 (Or.inr rfl)) (fun r2 h2 hP2 => ?_)
    obtain ⟨er2, V2, X2⟩ := hP2
    have er : r2 = r1 := er2.trans er1.symm
    subst er
    have Bo := zBo_2 W1 V2 (fun a j ha => X2 a j (Or.inl ha))
    refine wp_icmp_eqs 1377 dL_law_1024 rfl ?_
    exact kk _ _ Bo
set_option maxRecDepth 100000 in
set_option maxHeartbeats 4000000 in
theorem law_25 {L : Nat} {xs : Nat → Int32} (hL : L ≤ 3584) {i : Nat} (hi : i + 7 ≤ L) {p : Int} {c : Nat → Nat → Int} {hs : List (Int × (Nat → Nat → Int))} {tx : Nat → Int} {T : Nat} {h : zH} (H : zWd p c hs tx T h) (V : zVd p c hs tx T h) (kk : ∀ (s : zS) (h : zH), zBo s h → WP (mlaw L xs) zLQ 1377 [some (vR 1000), some (vR 1), some (vR 445), some (vI (i : Int))] [] zN zGR h) : WP (mlaw L xs) zLQ 1029 [some (vR 1000), some (vR 1), some (vR 445), some (vI (i : Int))] [] zN zGR h := by
  refine w_aload1 dL_law_1029 ?_
  refine w_aload0 dL_law_1030 ?_
  refine w_iload3 dL_law_1031 ?_
  refine wp_iconst dL_law_1032 ?_
  refine wp_iadd dL_law_1033 ?_
  refine wp_sld dL_law_1034 ⟨by omega, by omega⟩ hL ?_
  refine wp_if_eq 1042 dL_law_1035 rfl (z32 _) (fun cb1 => ?_) (fun cb1 => ?_)
  · skip
    refine wp_iconst dL_law_1042 ?_
    refine w_aload0 dL_law_1043 ?_
    refine w_iload3 dL_law_1044 ?_
    refine wp_iconst dL_law_1045 ?_
    refine wp_iadd dL_law_1046 ?_
    refine wp_sld dL_law_1047 ⟨by omega, by omega⟩ hL ?_
    refine l_ci (As := [vI 0, vI (xs ((i : Int) + 2).toNat).toInt]) (rest := []) (np := 2) dL_law_1048 lk_R_law0_121 mvX9_eliminant rfl (by decide) is_1 (Nat.le_of_ble_eq_true rfl) rfl (t_X9_eliminant H (Or.inl rfl) (z32 _)) (fun r1 h1 hP1 => ?_)
    obtain ⟨er1, W1, X1⟩ := hP1
    have V1 := zBo_1 V X1
    refine w_aload2 dL_law_1051 ?_
    refine w_aload0 dL_law_1052 ?_
    refine w_iload3 dL_law_1053 ?_
    refine wp_iconst dL_law_1054 ?_
    refine wp_iadd dL_law_1055 ?_
    refine wp_sld dL_law_1056 ⟨by omega, by omega⟩ hL ?_
    refine wp_if_eq 1064 dL_law_1057 rfl (z32 _) (fun q1057 => ?_) (fun q1057 => absurd cb1 q1057)
    refine wp_iconst dL_law_1064 ?_
    refine w_aload0 dL_law_1065 ?_
    refine w_iload3 dL_law_1066 ?_
    refine wp_iconst dL_law_1067 ?_
    refine wp_iadd dL_law_1068 ?_
    refine wp_sld dL_law_1069 ⟨by omega, by omega⟩ hL ?_
    refine l_ci (As := [vI 0, vI (xs ((i : Int) + 2).toNat).toInt]) (rest := [vI r1]) (np := 2) dL_law_1070 lk_R_law0_125 mvX10_eliminant rfl (by decide) is_445 (Nat.le_of_ble_eq_true rfl) rfl (t_X10_eliminant V1 (Or.inl rfl) (z32 _)) (fun r2 h2 hP2 => ?_)
    obtain ⟨er2, V2, X2⟩ := hP2
    have er : r2 = r1 := er2.trans er1.symm
    subst er
    have Bo := zBo_2 W1 V2 (fun a j ha => X2 a j (Or.inl ha))
    refine wp_icmp_eqs 1377 dL_law_1073 rfl ?_
    exact kk _ _ Bo
  · skip
    refine wp_iconst dL_law_1038 ?_
    refine wp_goto 1043 dL_law_1039 rfl ?_
    refine w_aload0 dL_law_1043 ?_
    refine w_iload3 dL_law_1044 ?_
    refine wp_iconst dL_law_1045 ?_
    refine wp_iadd dL_law_1046 ?_
    refine wp_sld dL_law_1047 ⟨by omega, by omega⟩ hL ?_
    refine l_ci (As := [vI 1, vI (xs ((i : Int) + 2).toNat).toInt]) (rest := []) (np := 2) dL_law_1048 lk_R_law0_121 mvX9_eliminant rfl (by decide) is_1 (Nat.le_of_ble_eq_true rfl) rfl (t_X9_eliminant H (Or.inr rfl) (z32 _)) (fun r1 h1 hP1 => ?_)
    obtain ⟨er1, W1, X1⟩ := hP1
    have V1 := zBo_1 V X1
    refine w_aload2 dL_law_1051 ?_
    refine w_aload0 dL_law_1052 ?_
    refine w_iload3 dL_law_1053 ?_
    refine wp_iconst dL_law_1054 ?_
    refine wp_iadd dL_law_1055 ?_
    refine wp_sld dL_law_1056 ⟨by omega, by omega⟩ hL ?_
    refine wp_if_eq 1064 dL_law_1057 rfl (z32 _) (fun q1057 => absurd q1057 cb1) (fun q1057 => ?_)
    refine wp_iconst dL_law_1060 ?_
    refine wp_goto 1065 dL_law_1061 rfl ?_
    refine w_aload0 dL_law_1065 ?_
    refine w_iload3 dL_law_1066 ?_
    refine wp_iconst dL_law_1067 ?_
    refine wp_iadd dL_law_1068 ?_
    refine wp_sld dL_law_1069 ⟨by omega, by omega⟩ hL ?_
    refine l_ci (As := [vI 1, vI (xs ((i : Int) + 2).toNat).toInt]) (rest := [vI r1]) (np := 2) dL_law_1070 lk_R_law0_125 mvX10_eliminant rfl (by decide) is_445 (Nat.le_of_ble_eq_true rfl) rfl (t_X10_eliminant V1 (Or.inr rfl) (z32 _)) (fun r2 h2 hP2 => ?_)
    obtain ⟨er2, V2, X2⟩ := hP2
    have er : r2 = r1 := er2.trans er1.symm
    subst er
    have Bo := zBo_2 W1 V2 (fun a j ha => X2 a j (Or.inl ha))
    refine wp_icmp_eqs 1377 dL_law_1073 rfl ?_
    exact kk _ _ Bo
set_option maxRecDepth 100000 in
set_option maxHeartbeats 4000000 in
theorem law_26 {L : Nat} {xs : Nat → Int32} (hL : L ≤ 3584) {i : Nat} (hi : i + 7 ≤ L) {p : Int} {c : Nat → Nat → Int} {hs : List (Int × (Nat → Nat → Int))} {tx : Nat → Int} {T : Nat} {h : zH} (H : zWd p c hs tx T h) (V : zVd p c hs tx T h) (kk : ∀ (s : zS) (h : zH), zBo s h → WP (mlaw L xs) zLQ 1377 [some (vR 1000), some (vR 1), some (vR 445), some (vI (i : Int))] [] zN zGR h) : WP (mlaw L xs) zLQ 1078 [some (vR 1000), some (vR 1), some (vR 445), some (vI (i : Int))] [] zN zGR h := by
  refine w_aload1 dL_law_1078 ?_
  refine w_aload0 dL_law_1079 ?_
  refine w_iload3 dL_law_1080 ?_
  refine wp_iconst dL_law_1081 ?_
  refine wp_iadd dL_law_1082 ?_
  refine wp_sld dL_law_1083 ⟨by omega, by omega⟩ hL ?_
  refine wp_if_eq 1091 dL_law_1084 rfl (z32 _) (fun cb1 => ?_) (fun cb1 => ?_)
  · skip
    refine wp_iconst dL_law_1091 ?_
    refine w_aload0 dL_law_1092 ?_
    refine w_iload3 dL_law_1093 ?_
    refine wp_iconst dL_law_1094 ?_
    refine wp_iadd dL_law_1095 ?_
    refine wp_sld dL_law_1096 ⟨by omega, by omega⟩ hL ?_
    refine l_ci (As := [vI 0, vI (xs ((i : Int) + 2).toNat).toInt]) (rest := []) (np := 2) dL_law_1097 lk_R_law0_126 mvX9_eliminantAt rfl (by decide) is_1 (Nat.le_of_ble_eq_true rfl) rfl (t_X9_eliminantAt H (Or.inl rfl) (z32 _)) (fun r1 h1 hP1 => ?_)
    obtain ⟨er1, W1, X1⟩ := hP1
    have V1 := zBo_1 V X1
    refine w_aload2 dL_law_1100 ?_
    refine w_aload0 dL_law_1101 ?_
    refine w_iload3 dL_law_1102 ?_
    refine wp_iconst dL_law_1103 ?_
    refine wp_iadd dL_law_1104 ?_
    refine wp_sld dL_law_1105 ⟨by omega, by omega⟩ hL ?_
    refine wp_if_eq 1113 dL_law_1106 rfl (z32 _) (fun q1106 => ?_) (fun q1106 => absurd cb1 q1106)
    refine wp_iconst dL_law_1113 ?_
    refine w_aload0 dL_law_1114 ?_
    refine w_iload3 dL_law_1115 ?_
    refine wp_iconst dL_law_1116 ?_
    refine wp_iadd dL_law_1117 ?_
    refine wp_sld dL_law_1118 ⟨by omega, by omega⟩ hL ?_
    refine l_ci (As := [vI 0, vI (xs ((i : Int) + 2).toNat).toInt]) (rest := [vI r1]) (np := 2) dL_law_1119 lk_R_law0_129 mvX10_eliminantAt rfl (by decide) is_445 (Nat.le_of_ble_eq_true rfl) rfl (t_X10_eliminantAt V1 (Or.inl rfl) (z32 _)) (fun r2 h2 hP2 => ?_)
    obtain ⟨er2, V2, X2⟩ := hP2
    have er : r2 = r1 := er2.trans er1.symm
    subst er
    have Bo := zBo_2 W1 V2 (fun a j ha => X2 a j (Or.inl ha))
    refine wp_icmp_eqs 1377 dL_law_1122 rfl ?_
    exact kk _ _ Bo
  · skip
    refine wp_iconst dL_law_1087 ?_
    refine wp_goto 1092 dL_law_1088 rfl ?_
    refine w_aload0 dL_law_1092 ?_
    refine w_iload3 dL_law_1093 ?_
    refine wp_iconst dL_law_1094 ?_
    refine wp_iadd dL_law_1095 ?_
    refine wp_sld dL_law_1096 ⟨by omega, by omega⟩ hL ?_
    refine l_ci (As := [vI 1, vI (xs ((i : Int) + 2).toNat).toInt]) (rest := []) (np := 2) dL_law_1097 lk_R_law0_126 mvX9_eliminantAt rfl (by decide) is_1 (Nat.le_of_ble_eq_true rfl) rfl (t_X9_eliminantAt H (Or.inr rfl) (z32 _)) (fun r1 h1 hP1 => ?_)
    obtain ⟨er1, W1, X1⟩ := hP1
    have V1 := zBo_1 V X1
    refine w_aload2 dL_law_1100 ?_
    refine w_aload0 dL_law_1101 ?_
    refine w_iload3 dL_law_1102 ?_
    refine wp_iconst dL_law_1103 ?_
    refine wp_iadd dL_law_1104 ?_
    refine wp_sld dL_law_1105 ⟨by omega, by omega⟩ hL ?_
    refine wp_if_eq 1113 dL_law_1106 rfl (z32 _) (fun q1106 => absurd q1106 cb1) (fun q1106 => ?_)
    refine wp_iconst dL_law_1109 ?_
    refine wp_goto 1114 dL_law_1110 rfl ?_
    refine w_aload0 dL_law_1114 ?_
    refine w_iload3 dL_law_1115 ?_
    refine wp_iconst dL_law_1116 ?_
    refine wp_iadd dL_law_1117 ?_
    refine wp_sld dL_law_1118 ⟨by omega, by omega⟩ hL ?_
    refine l_ci (As := [vI 1, vI (xs ((i : Int) + 2).toNat).toInt]) (rest := [vI r1]) (np := 2) dL_law_1119 lk_R_law0_129 mvX10_eliminantAt rfl (by decide) is_445 (Nat.le_of_ble_eq_true rfl) rfl (t_X10_eliminantAt V1 (Or.inr rfl) (z32 _)) (fun r2 h2 hP2 => ?_)
    obtain ⟨er2, V2, X2⟩ := hP2
    have er : r2 = r1 := er2.trans er1.symm
    subst er
    have Bo := zBo_2 W1 V2 (fun a j ha => X2 a j (Or.inl ha))
    refine wp_icmp_eqs 1377 dL_law_1122 rfl ?_
    exact kk _ _ Bo
set_option maxRecDepth 100000 in
set_option maxHeartbeats 4000000 in
theorem law_27 {L : Nat} {xs : Nat → Int32} (hL : L ≤ 3584) {i : Nat} (hi : i + 7 ≤ L) {p : Int} {c : Nat → Nat → Int} {hs : List (Int × (Nat → Nat → Int))} {tx : Nat → Int} {T : Nat} {h : zH} (H : zWd p c hs tx T h) (V : zVd p c hs tx T h) (kk : ∀ (s : zS) (h : zH), zBo s h → WP (mlaw L xs) zLQ 1377 [some (vR 1000), some (vR 1), some (vR 445), some (vI (i : Int))] [] zN zGR h) : WP (mlaw L xs) zLQ 1127 [some (vR 1000), some (vR 1), some (vR 445), some (vI (i : Int))] [] zN zGR h := by
  refine w_aload1 dL_law_1127 ?_
  refine w_aload0 dL_law_1128 ?_
  refine w_iload3 dL_law_1129 ?_
  refine wp_iconst dL_law_1130 ?_
  refine wp_iadd dL_law_1131 ?_
  refine wp_sld dL_law_1132 ⟨by omega, by omega⟩ hL ?_
  refine l_ci (As := [vI (xs ((i : Int) + 1).toNat).toInt]) (rest := []) (np := 1) dL_law_1133 lk_R_law0_130 mvX9_multiplicity rfl (by decide) is_1 (Nat.le_of_ble_eq_true rfl) rfl (t_X9_multiplicity H (z32 _)) (fun r1 h1 hP1 => ?_)
  obtain ⟨er1, W1, X1⟩ := hP1
  have V1 := zBo_1 V X1
  refine w_aload2 dL_law_1136 ?_
  refine w_aload0 dL_law_1137 ?_
  refine w_iload3 dL_law_1138 ?_
  refine wp_iconst dL_law_1139 ?_
  refine wp_iadd dL_law_1140 ?_
  refine wp_sld dL_law_1141 ⟨by omega, by omega⟩ hL ?_
  refine l_ci (As := [vI (xs ((i : Int) + 1).toNat).toInt]) (rest := [vI r1]) (np := 1) dL_law_1142 lk_R_law0_133 mvX10_multiplicity rfl (by decide) is_445 (Nat.le_of_ble_eq_true rfl) rfl (t_X10_multiplicity V1 (z32 _)) (fun r2 h2 hP2 => ?_)
  obtain ⟨er2, V2, X2⟩ := hP2
  have er : r2 = r1 := er2.trans er1.symm
  subst er
  have Bo := zBo_2 W1 V2 (fun a j ha => X2 a j (Or.inl ha))
  refine wp_icmp_eqs 1377 dL_law_1145 rfl ?_
  exact kk _ _ Bo
set_option maxRecDepth 100000 in
set_option maxHeartbeats 4000000 in
theorem law_28 {L : Nat} {xs : Nat → Int32} (hL : L ≤ 3584) {i : Nat} (hi : i + 7 ≤ L) {p : Int} {c : Nat → Nat → Int} {hs : List (Int × (Nat → Nat → Int))} {tx : Nat → Int} {T : Nat} {h : zH} (H : zWd p c hs tx T h) (V : zVd p c hs tx T h) (kk : ∀ (s : zS) (h : zH), zBo s h → WP (mlaw L xs) zLQ 1377 [some (vR 1000), some (vR 1), some (vR 445), some (vI (i : Int))] [] zN zGR h) : WP (mlaw L xs) zLQ 1150 [some (vR 1000), some (vR 1), some (vR 445), some (vI (i : Int))] [] zN zGR h := by
  refine w_aload1 dL_law_1150 ?_
  refine l_ci (As := []) (rest := []) (np := 0) dL_law_1151 lk_R_law0_134 mvX9_extraneous rfl (by decide) is_1 (Nat.le_of_ble_eq_true rfl) rfl (t_X9_extraneous H ) (fun r1 h1 hP1 => ?_)
  obtain ⟨er1, W1, X1⟩ := hP1
  have V1 := zBo_1 V X1
  refine w_aload2 dL_law_1154 ?_
  refine l_ci (As := []) (rest := [vI r1]) (np := 0) dL_law_1155 lk_R_law0_137 mvX10_extraneous rfl (by decide) is_445 (Nat.le_of_ble_eq_true rfl) rfl (t_X10_extraneous V1 ) (fun r2 h2 hP2 => ?_)
  obtain ⟨er2, V2, X2⟩ := hP2
  have er : r2 = r1 := er2.trans er1.symm
  subst er
  have Bo := zBo_2 W1 V2 (fun a j ha => X2 a j (Or.inl ha))
  refine wp_icmp_eqs 1377 dL_law_1158 rfl ?_
  exact kk _ _ Bo
set_option maxRecDepth 100000 in
set_option maxHeartbeats 4000000 in
theorem law_29 {L : Nat} {xs : Nat → Int32} (hL : L ≤ 3584) {i : Nat} (hi : i + 7 ≤ L) {p : Int} {c : Nat → Nat → Int} {hs : List (Int × (Nat → Nat → Int))} {tx : Nat → Int} {T : Nat} {h : zH} (H : zWd p c hs tx T h) (V : zVd p c hs tx T h) (kk : ∀ (s : zS) (h : zH), zBo s h → WP (mlaw L xs) zLQ 1377 [some (vR 1000), some (vR 1), some (vR 445), some (vI (i : Int))] [] zN zGR h) : WP (mlaw L xs) zLQ 1163 [some (vR 1000), some (vR 1), some (vR 445), some (vI (i : Int))] [] zN zGR h := by
  refine w_aload1 dL_law_1163 ?_
  refine w_aload0 dL_law_1164 ?_
  refine w_iload3 dL_law_1165 ?_
  refine wp_iconst dL_law_1166 ?_
  refine wp_iadd dL_law_1167 ?_
  refine wp_sld dL_law_1168 ⟨by omega, by omega⟩ hL ?_
  refine l_ci (As := [vI (xs ((i : Int) + 1).toNat).toInt]) (rest := []) (np := 1) dL_law_1169 lk_R_law0_138 mvX9_commonRoots rfl (by decide) is_1 (Nat.le_of_ble_eq_true rfl) rfl (t_X9_commonRoots H (z32 _)) (fun r1 h1 hP1 => ?_)
  obtain ⟨er1, W1, X1⟩ := hP1
  have V1 := zBo_1 V X1
  refine w_aload2 dL_law_1172 ?_
  refine w_aload0 dL_law_1173 ?_
  refine w_iload3 dL_law_1174 ?_
  refine wp_iconst dL_law_1175 ?_
  refine wp_iadd dL_law_1176 ?_
  refine wp_sld dL_law_1177 ⟨by omega, by omega⟩ hL ?_
  refine l_ci (As := [vI (xs ((i : Int) + 1).toNat).toInt]) (rest := [vI r1]) (np := 1) dL_law_1178 lk_R_law0_141 mvX10_commonRoots rfl (by decide) is_445 (Nat.le_of_ble_eq_true rfl) rfl (t_X10_commonRoots V1 (z32 _)) (fun r2 h2 hP2 => ?_)
  obtain ⟨er2, V2, X2⟩ := hP2
  have er : r2 = r1 := er2.trans er1.symm
  subst er
  have Bo := zBo_2 W1 V2 (fun a j ha => X2 a j (Or.inl ha))
  refine wp_icmp_eqs 1377 dL_law_1181 rfl ?_
  exact kk _ _ Bo
set_option maxRecDepth 100000 in
set_option maxHeartbeats 4000000 in
theorem law_30 {L : Nat} {xs : Nat → Int32} (hL : L ≤ 3584) {i : Nat} (hi : i + 7 ≤ L) {p : Int} {c : Nat → Nat → Int} {hs : List (Int × (Nat → Nat → Int))} {tx : Nat → Int} {T : Nat} {h : zH} (H : zWd p c hs tx T h) (V : zVd p c hs tx T h) (kk : ∀ (s : zS) (h : zH), zBo s h → WP (mlaw L xs) zLQ 1377 [some (vR 1000), some (vR 1), some (vR 445), some (vI (i : Int))] [] zN zGR h) : WP (mlaw L xs) zLQ 1186 [some (vR 1000), some (vR 1), some (vR 445), some (vI (i : Int))] [] zN zGR h := by
  refine w_aload1 dL_law_1186 ?_
  refine w_aload0 dL_law_1187 ?_
  refine w_iload3 dL_law_1188 ?_
  refine wp_iconst dL_law_1189 ?_
  refine wp_iadd dL_law_1190 ?_
  refine wp_sld dL_law_1191 ⟨by omega, by omega⟩ hL ?_
  refine w_aload0 dL_law_1192 ?_
  refine w_iload3 dL_law_1193 ?_
  refine wp_iconst dL_law_1194 ?_
  refine wp_iadd dL_law_1195 ?_
  refine wp_sld dL_law_1196 ⟨by omega, by omega⟩ hL ?_
  refine l_ci (As := [vI (xs ((i : Int) + 1).toNat).toInt, vI (xs ((i : Int) + 2).toNat).toInt]) (rest := []) (np := 2) dL_law_1197 lk_R_law0_142 mvX9_commonRoot rfl (by decide) is_1 (Nat.le_of_ble_eq_true rfl) rfl (t_X9_commonRoot H (z32 _) (z32 _)) (fun r1 h1 hP1 => ?_)
  obtain ⟨er1, W1, X1⟩ := hP1
  have V1 := zBo_1 V X1
  refine w_aload2 dL_law_1200 ?_
  refine w_aload0 dL_law_1201 ?_
  refine w_iload3 dL_law_1202 ?_
  refine wp_iconst dL_law_1203 ?_
  refine wp_iadd dL_law_1204 ?_
  refine wp_sld dL_law_1205 ⟨by omega, by omega⟩ hL ?_
  refine w_aload0 dL_law_1206 ?_
  refine w_iload3 dL_law_1207 ?_
  refine wp_iconst dL_law_1208 ?_
  refine wp_iadd dL_law_1209 ?_
  refine wp_sld dL_law_1210 ⟨by omega, by omega⟩ hL ?_
  refine l_ci (As := [vI (xs ((i : Int) + 1).toNat).toInt, vI (xs ((i : Int) + 2).toNat).toInt]) (rest := [vI r1]) (np := 2) dL_law_1211 lk_R_law0_145 mvX10_commonRoot rfl (by decide) is_445 (Nat.le_of_ble_eq_true rfl) rfl (t_X10_commonRoot V1 (z32 _) (z32 _)) (fun r2 h2 hP2 => ?_)
  obtain ⟨er2, V2, X2⟩ := hP2
  have er : r2 = r1 := er2.trans er1.symm
  subst er
  have Bo := zBo_2 W1 V2 (fun a j ha => X2 a j (Or.inl ha))
  refine wp_icmp_eqs 1377 dL_law_1214 rfl ?_
  exact kk _ _ Bo
set_option maxRecDepth 100000 in
set_option maxHeartbeats 4000000 in
theorem law_31 {L : Nat} {xs : Nat → Int32} (hL : L ≤ 3584) {i : Nat} (hi : i + 7 ≤ L) {p : Int} {c : Nat → Nat → Int} {hs : List (Int × (Nat → Nat → Int))} {tx : Nat → Int} {T : Nat} {h : zH} (H : zWd p c hs tx T h) (V : zVd p c hs tx T h) (kk : ∀ (s : zS) (h : zH), zBo s h → WP (mlaw L xs) zLQ 1377 [some (vR 1000), some (vR 1), some (vR 445), some (vI (i : Int))] [] zN zGR h) : WP (mlaw L xs) zLQ 1219 [some (vR 1000), some (vR 1), some (vR 445), some (vI (i : Int))] [] zN zGR h := by
  refine w_aload1 dL_law_1219 ?_
  refine l_ci (As := []) (rest := []) (np := 0) dL_law_1220 lk_R_law0_146 mvX9_solvable rfl (by decide) is_1 (Nat.le_of_ble_eq_true rfl) rfl (t_X9_solvable H ) (fun r1 h1 hP1 => ?_)
  obtain ⟨er1, W1, X1⟩ := hP1
  have V1 := zBo_1 V X1
  refine w_aload2 dL_law_1223 ?_
  refine l_ci (As := []) (rest := [vI r1]) (np := 0) dL_law_1224 lk_R_law0_149 mvX10_solvable rfl (by decide) is_445 (Nat.le_of_ble_eq_true rfl) rfl (t_X10_solvable V1 ) (fun r2 h2 hP2 => ?_)
  obtain ⟨er2, V2, X2⟩ := hP2
  have er : r2 = r1 := er2.trans er1.symm
  subst er
  have Bo := zBo_2 W1 V2 (fun a j ha => X2 a j (Or.inl ha))
  refine wp_icmp_eqs 1377 dL_law_1227 rfl ?_
  exact kk _ _ Bo
set_option maxRecDepth 100000 in
set_option maxHeartbeats 4000000 in
theorem law_32 {L : Nat} {xs : Nat → Int32} (hL : L ≤ 3584) {i : Nat} (hi : i + 7 ≤ L) {p : Int} {c : Nat → Nat → Int} {hs : List (Int × (Nat → Nat → Int))} {tx : Nat → Int} {T : Nat} {h : zH} (H : zWd p c hs tx T h) (V : zVd p c hs tx T h) (kk : ∀ (s : zS) (h : zH), zBo s h → WP (mlaw L xs) zLQ 1377 [some (vR 1000), some (vR 1), some (vR 445), some (vI (i : Int))] [] zN zGR h) : WP (mlaw L xs) zLQ 1232 [some (vR 1000), some (vR 1), some (vR 445), some (vI (i : Int))] [] zN zGR h := by
  refine w_aload1 dL_law_1232 ?_
  refine w_aload0 dL_law_1233 ?_
  refine w_iload3 dL_law_1234 ?_
  refine wp_iconst dL_law_1235 ?_
  refine wp_iadd dL_law_1236 ?_
  refine wp_sld dL_law_1237 ⟨by omega, by omega⟩ hL ?_
  refine l_ci (As := [vI (xs ((i : Int) + 1).toNat).toInt]) (rest := []) (np := 1) dL_law_1238 lk_R_law0_150 mvX9_kernel rfl (by decide) is_1 (Nat.le_of_ble_eq_true rfl) rfl (t_X9_kernel H (z32 _)) (fun r1 h1 hP1 => ?_)
  obtain ⟨er1, W1, X1⟩ := hP1
  have V1 := zBo_1 V X1
  refine w_aload2 dL_law_1241 ?_
  refine w_aload0 dL_law_1242 ?_
  refine w_iload3 dL_law_1243 ?_
  refine wp_iconst dL_law_1244 ?_
  refine wp_iadd dL_law_1245 ?_
  refine wp_sld dL_law_1246 ⟨by omega, by omega⟩ hL ?_
  refine l_ci (As := [vI (xs ((i : Int) + 1).toNat).toInt]) (rest := [vI r1]) (np := 1) dL_law_1247 lk_R_law0_153 mvX10_kernel rfl (by decide) is_445 (Nat.le_of_ble_eq_true rfl) rfl (t_X10_kernel V1 (z32 _)) (fun r2 h2 hP2 => ?_)
  obtain ⟨er2, V2, X2⟩ := hP2
  have er : r2 = r1 := er2.trans er1.symm
  subst er
  have Bo := zBo_2 W1 V2 (fun a j ha => X2 a j (Or.inl ha))
  refine wp_icmp_eqs 1377 dL_law_1250 rfl ?_
  exact kk _ _ Bo
set_option maxRecDepth 100000 in
set_option maxHeartbeats 4000000 in
theorem law_33 {L : Nat} {xs : Nat → Int32} (hL : L ≤ 3584) {i : Nat} (hi : i + 7 ≤ L) {p : Int} {c : Nat → Nat → Int} {hs : List (Int × (Nat → Nat → Int))} {tx : Nat → Int} {T : Nat} {h : zH} (H : zWd p c hs tx T h) (V : zVd p c hs tx T h) (kk : ∀ (s : zS) (h : zH), zBo s h → WP (mlaw L xs) zLQ 1377 [some (vR 1000), some (vR 1), some (vR 445), some (vI (i : Int))] [] zN zGR h) : WP (mlaw L xs) zLQ 1255 [some (vR 1000), some (vR 1), some (vR 445), some (vI (i : Int))] [] zN zGR h := by
  refine w_aload1 dL_law_1255 ?_
  refine w_aload0 dL_law_1256 ?_
  refine w_iload3 dL_law_1257 ?_
  refine wp_iconst dL_law_1258 ?_
  refine wp_iadd dL_law_1259 ?_
  refine wp_sld dL_law_1260 ⟨by omega, by omega⟩ hL ?_
  refine w_aload0 dL_law_1261 ?_
  refine w_iload3 dL_law_1262 ?_
  refine wp_iconst dL_law_1263 ?_
  refine wp_iadd dL_law_1264 ?_
  refine wp_sld dL_law_1265 ⟨by omega, by omega⟩ hL ?_
  refine wp_if_eq 1273 dL_law_1266 rfl (z32 _) (fun cb2 => ?_) (fun cb2 => ?_)
  · skip
    refine wp_iconst dL_law_1273 ?_
    refine l_ci (As := [vI (xs ((i : Int) + 1).toNat).toInt, vI 0]) (rest := []) (np := 2) dL_law_1274 lk_R_law0_154 mvX9_recovered rfl (by decide) is_1 (Nat.le_of_ble_eq_true rfl) rfl (t_X9_recovered H (z32 _) (Or.inl rfl)) (fun r1 h1 hP1 => ?_)
    obtain ⟨er1, W1, X1⟩ := hP1
    have V1 := zBo_1 V X1
    refine w_aload2 dL_law_1277 ?_
    refine w_aload0 dL_law_1278 ?_
    refine w_iload3 dL_law_1279 ?_
    refine wp_iconst dL_law_1280 ?_
    refine wp_iadd dL_law_1281 ?_
    refine wp_sld dL_law_1282 ⟨by omega, by omega⟩ hL ?_
    refine w_aload0 dL_law_1283 ?_
    refine w_iload3 dL_law_1284 ?_
    refine wp_iconst dL_law_1285 ?_
    refine wp_iadd dL_law_1286 ?_
    refine wp_sld dL_law_1287 ⟨by omega, by omega⟩ hL ?_
    refine wp_if_eq 1295 dL_law_1288 rfl (z32 _) (fun q1288 => ?_) (fun q1288 => absurd cb2 q1288)
    refine wp_iconst dL_law_1295 ?_
    refine l_ci (As := [vI (xs ((i : Int) + 1).toNat).toInt, vI 0]) (rest := [vI r1]) (np := 2) dL_law_1296 lk_R_law0_158 mvX10_recovered rfl (by decide) is_445 (Nat.le_of_ble_eq_true rfl) rfl (t_X10_recovered V1 (z32 _) (Or.inl rfl)) (fun r2 h2 hP2 => ?_)
    obtain ⟨er2, V2, X2⟩ := hP2
    have er : r2 = r1 := er2.trans er1.symm
    subst er
    have Bo := zBo_2 W1 V2 (fun a j ha => X2 a j (Or.inl ha))
    refine wp_icmp_eqs 1377 dL_law_1299 rfl ?_
    exact kk _ _ Bo
  · skip
    refine wp_iconst dL_law_1269 ?_
    refine wp_goto 1274 dL_law_1270 rfl ?_
    refine l_ci (As := [vI (xs ((i : Int) + 1).toNat).toInt, vI 1]) (rest := []) (np := 2) dL_law_1274 lk_R_law0_154 mvX9_recovered rfl (by decide) is_1 (Nat.le_of_ble_eq_true rfl) rfl (t_X9_recovered H (z32 _) (Or.inr rfl)) (fun r1 h1 hP1 => ?_)
    obtain ⟨er1, W1, X1⟩ := hP1
    have V1 := zBo_1 V X1
    refine w_aload2 dL_law_1277 ?_
    refine w_aload0 dL_law_1278 ?_
    refine w_iload3 dL_law_1279 ?_
    refine wp_iconst dL_law_1280 ?_
    refine wp_iadd dL_law_1281 ?_
    refine wp_sld dL_law_1282 ⟨by omega, by omega⟩ hL ?_
    refine w_aload0 dL_law_1283 ?_
    refine w_iload3 dL_law_1284 ?_
    refine wp_iconst dL_law_1285 ?_
    refine wp_iadd dL_law_1286 ?_
    refine wp_sld dL_law_1287 ⟨by omega, by omega⟩ hL ?_
    refine wp_if_eq 1295 dL_law_1288 rfl (z32 _) (fun q1288 => absurd q1288 cb2) (fun q1288 => ?_)
    refine wp_iconst dL_law_1291 ?_
    refine wp_goto 1296 dL_law_1292 rfl ?_
    refine l_ci (As := [vI (xs ((i : Int) + 1).toNat).toInt, vI 1]) (rest := [vI r1]) (np := 2) dL_law_1296 lk_R_law0_158 mvX10_recovered rfl (by decide) is_445 (Nat.le_of_ble_eq_true rfl) rfl (t_X10_recovered V1 (z32 _) (Or.inr rfl)) (fun r2 h2 hP2 => ?_)
    obtain ⟨er2, V2, X2⟩ := hP2
    have er : r2 = r1 := er2.trans er1.symm
    subst er
    have Bo := zBo_2 W1 V2 (fun a j ha => X2 a j (Or.inl ha))
    refine wp_icmp_eqs 1377 dL_law_1299 rfl ?_
    exact kk _ _ Bo
set_option maxRecDepth 100000 in
set_option maxHeartbeats 4000000 in
theorem law_34 {L : Nat} {xs : Nat → Int32} (hL : L ≤ 3584) {i : Nat} (hi : i + 7 ≤ L) {p : Int} {c : Nat → Nat → Int} {hs : List (Int × (Nat → Nat → Int))} {tx : Nat → Int} {T : Nat} {h : zH} (H : zWd p c hs tx T h) (V : zVd p c hs tx T h) (kk : ∀ (s : zS) (h : zH), zBo s h → WP (mlaw L xs) zLQ 1377 [some (vR 1000), some (vR 1), some (vR 445), some (vI (i : Int))] [] zN zGR h) : WP (mlaw L xs) zLQ 1304 [some (vR 1000), some (vR 1), some (vR 445), some (vI (i : Int))] [] zN zGR h := by
  refine w_aload1 dL_law_1304 ?_
  refine w_aload0 dL_law_1305 ?_
  refine w_iload3 dL_law_1306 ?_
  refine wp_iconst dL_law_1307 ?_
  refine wp_iadd dL_law_1308 ?_
  refine wp_sld dL_law_1309 ⟨by omega, by omega⟩ hL ?_
  refine l_ci (As := [vI (xs ((i : Int) + 1).toNat).toInt]) (rest := []) (np := 1) dL_law_1310 lk_R_law0_159 mvX9_confirmed rfl (by decide) is_1 (Nat.le_of_ble_eq_true rfl) rfl (t_X9_confirmed H (z32 _)) (fun r1 h1 hP1 => ?_)
  obtain ⟨er1, W1, X1⟩ := hP1
  have V1 := zBo_1 V X1
  refine w_aload2 dL_law_1313 ?_
  refine w_aload0 dL_law_1314 ?_
  refine w_iload3 dL_law_1315 ?_
  refine wp_iconst dL_law_1316 ?_
  refine wp_iadd dL_law_1317 ?_
  refine wp_sld dL_law_1318 ⟨by omega, by omega⟩ hL ?_
  refine l_ci (As := [vI (xs ((i : Int) + 1).toNat).toInt]) (rest := [vI r1]) (np := 1) dL_law_1319 lk_R_law0_162 mvX10_confirmed rfl (by decide) is_445 (Nat.le_of_ble_eq_true rfl) rfl (t_X10_confirmed V1 (z32 _)) (fun r2 h2 hP2 => ?_)
  obtain ⟨er2, V2, X2⟩ := hP2
  have er : r2 = r1 := er2.trans er1.symm
  subst er
  have Bo := zBo_2 W1 V2 (fun a j ha => X2 a j (Or.inl ha))
  refine wp_icmp_eqs 1377 dL_law_1322 rfl ?_
  exact kk _ _ Bo
set_option maxRecDepth 100000 in
set_option maxHeartbeats 4000000 in
theorem law_35 {L : Nat} {xs : Nat → Int32} (hL : L ≤ 3584) {i : Nat} (hi : i + 7 ≤ L) {p : Int} {c : Nat → Nat → Int} {hs : List (Int × (Nat → Nat → Int))} {tx : Nat → Int} {T : Nat} {h : zH} (H : zWd p c hs tx T h) (V : zVd p c hs tx T h) (kk : ∀ (s : zS) (h : zH), zBo s h → WP (mlaw L xs) zLQ 1377 [some (vR 1000), some (vR 1), some (vR 445), some (vI (i : Int))] [] zN zGR h) : WP (mlaw L xs) zLQ 1327 [some (vR 1000), some (vR 1), some (vR 445), some (vI (i : Int))] [] zN zGR h := by
  refine w_aload1 dL_law_1327 ?_
  refine l_ci (As := []) (rest := []) (np := 0) dL_law_1328 lk_R_law0_163 mvX9_undo rfl (by decide) is_1 (Nat.le_of_ble_eq_true rfl) rfl (t_X9_undo H ) (fun r1 h1 hP1 => ?_)
  obtain ⟨er1, W1, X1⟩ := hP1
  have V1 := zBo_1 V X1
  refine w_aload2 dL_law_1331 ?_
  refine l_ci (As := []) (rest := [vI r1]) (np := 0) dL_law_1332 lk_R_law0_166 mvX10_undo rfl (by decide) is_445 (Nat.le_of_ble_eq_true rfl) rfl (t_X10_undo V1 ) (fun r2 h2 hP2 => ?_)
  obtain ⟨er2, V2, X2⟩ := hP2
  have er : r2 = r1 := er2.trans er1.symm
  subst er
  have Bo := zBo_2 W1 V2 (fun a j ha => X2 a j (Or.inl ha))
  refine wp_icmp_eqs 1377 dL_law_1335 rfl ?_
  exact kk _ _ Bo
set_option maxRecDepth 100000 in
set_option maxHeartbeats 4000000 in
theorem law_36 {L : Nat} {xs : Nat → Int32} (hL : L ≤ 3584) {i : Nat} (hi : i + 7 ≤ L) {p : Int} {c : Nat → Nat → Int} {hs : List (Int × (Nat → Nat → Int))} {tx : Nat → Int} {T : Nat} {h : zH} (H : zWd p c hs tx T h) (V : zVd p c hs tx T h) (kk : ∀ (s : zS) (h : zH), zBo s h → WP (mlaw L xs) zLQ 1377 [some (vR 1000), some (vR 1), some (vR 445), some (vI (i : Int))] [] zN zGR h) : WP (mlaw L xs) zLQ 1340 [some (vR 1000), some (vR 1), some (vR 445), some (vI (i : Int))] [] zN zGR h := by
  refine w_aload1 dL_law_1340 ?_
  refine w_aload0 dL_law_1341 ?_
  refine w_iload3 dL_law_1342 ?_
  refine wp_iconst dL_law_1343 ?_
  refine wp_iadd dL_law_1344 ?_
  refine wp_sld dL_law_1345 ⟨by omega, by omega⟩ hL ?_
  refine l_ci (As := [vI (xs ((i : Int) + 1).toNat).toInt]) (rest := []) (np := 1) dL_law_1346 lk_R_law0_167 mvX9_count rfl (by decide) is_1 (Nat.le_of_ble_eq_true rfl) rfl (t_X9_count H (z32 _)) (fun r1 h1 hP1 => ?_)
  obtain ⟨er1, W1, X1⟩ := hP1
  have V1 := zBo_1 V X1
  refine w_aload2 dL_law_1349 ?_
  refine w_aload0 dL_law_1350 ?_
  refine w_iload3 dL_law_1351 ?_
  refine wp_iconst dL_law_1352 ?_
  refine wp_iadd dL_law_1353 ?_
  refine wp_sld dL_law_1354 ⟨by omega, by omega⟩ hL ?_
  refine l_ci (As := [vI (xs ((i : Int) + 1).toNat).toInt]) (rest := [vI r1]) (np := 1) dL_law_1355 lk_R_law0_170 mvX10_count rfl (by decide) is_445 (Nat.le_of_ble_eq_true rfl) rfl (t_X10_count V1 (z32 _)) (fun r2 h2 hP2 => ?_)
  obtain ⟨er2, V2, X2⟩ := hP2
  have er : r2 = r1 := er2.trans er1.symm
  subst er
  have Bo := zBo_2 W1 V2 (fun a j ha => X2 a j (Or.inl ha))
  refine wp_icmp_eqs 1377 dL_law_1358 rfl ?_
  exact kk _ _ Bo
set_option maxRecDepth 100000 in
set_option maxHeartbeats 4000000 in
theorem law_37 {L : Nat} {xs : Nat → Int32} (hL : L ≤ 3584) {i : Nat} (hi : i + 7 ≤ L) {p : Int} {c : Nat → Nat → Int} {hs : List (Int × (Nat → Nat → Int))} {tx : Nat → Int} {T : Nat} {h : zH} (H : zWd p c hs tx T h) (V : zVd p c hs tx T h) (kk : ∀ (s : zS) (h : zH), zBo s h → WP (mlaw L xs) zLQ 1377 [some (vR 1000), some (vR 1), some (vR 445), some (vI (i : Int))] [] zN zGR h) : WP (mlaw L xs) zLQ 1363 [some (vR 1000), some (vR 1), some (vR 445), some (vI (i : Int))] [] zN zGR h := by
  refine w_aload1 dL_law_1363 ?_
  refine l_cl (As := []) (rest := []) (np := 0) dL_law_1364 lk_R_law0_171 mvX9_digest rfl (by decide) is_1 (Nat.le_of_ble_eq_true rfl) rfl (t_X9_digest H ) (fun r1 h1 hP1 => ?_)
  obtain ⟨er1, W1, X1⟩ := hP1
  have V1 := zBo_1 V X1
  refine w_aload2 dL_law_1367 ?_
  refine l_cl (As := []) (rest := [vL r1]) (np := 0) dL_law_1368 lk_R_law0_175 mvX10_digest rfl (by decide) is_445 (Nat.le_of_ble_eq_true rfl) rfl (t_X10_digest V1 ) (fun r2 h2 hP2 => ?_)
  obtain ⟨er2, V2, X2⟩ := hP2
  have er : r2 = r1 := er2.trans er1.symm
  subst er
  rw [zdig_2] at W1
  have Bo : zBo (p, c, hs, tx, T) h2 := zBo_2 W1 V2 (fun a j ha => X2 a j ha)
  refine wp_lcmps dL_law_1371 ?_
  refine wp_if_eq 1377 dL_law_1372 rfl ⟨by decide, by decide⟩ (fun _ => ?_) (fun q => absurd rfl q)
  exact kk _ _ Bo

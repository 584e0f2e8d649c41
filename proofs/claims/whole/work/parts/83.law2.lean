/-! by program: the law's cases, and its loop -/
section AL2
variable {X : az_X} {b L : Nat} {xs : Nat → Int32} {i : Nat} {mem : az_M}
theorem al_case_0 (hL : L ≤ 3072) (hJ : zJ mem) (hi : i + 6 ≤ L) (K : ∀ mem', zJ mem' → al_Ev X b L xs 1130 (al_L X b i) [] mem') : al_Ev X b L xs 192 (al_L X b i) [] mem := by
  refine al_aload dL_law_192 rfl ?_
  refine al_call (N := mX7_post) (k := 0) (st := []) [] dL_law_193 lkL_13 okX7_post sh_0 rfl rfl (Nat.le_of_ble_eq_true rfl) (ok_post mem hJ) (fun r m1 hq => ?_)
  obtain ⟨v, rfl, hs2⟩ := hq
  show al_Ev X b L xs 196 (al_L X b i) [.int v] m1
  refine al_aload dL_law_196 rfl ?_
  refine al_call (N := mX8_post) (k := 391) (st := [.int v]) [] dL_law_197 lkL_17 okX8_post sh_391 rfl rfl (Nat.le_of_ble_eq_true rfl) hs2 (fun r2 m2 hq2 => ?_)
  obtain ⟨rfl, hJ2⟩ := hq2
  show al_Ev X b L xs 200 (al_L X b i) [.int v, .int v] m2
  exact al_icmpeq (t := 1130) dL_law_200 (by decide) (fun _ => K m2 hJ2) (fun h => absurd rfl h)
theorem al_case_1 (hL : L ≤ 3072) (hJ : zJ mem) (hi : i + 6 ≤ L) (K : ∀ mem', zJ mem' → al_Ev X b L xs 1130 (al_L X b i) [] mem') : al_Ev X b L xs 205 (al_L X b i) [] mem := by
  refine al_aload dL_law_205 rfl ?_
  refine al_aload dL_law_206 rfl ?_
  refine al_iload dL_law_207 rfl ?_
  refine al_iconst (v := 1) dL_law_208 (by decide) ?_
  refine al_iadd dL_law_209 ?_
  refine al_sld (i := i + 1) dL_law_210 (by omega) (by omega) (by rw [show (1 : Int32) = nI 1 from rfl, nI_add]) ?_
  refine al_aload dL_law_211 rfl ?_
  refine al_iload dL_law_212 rfl ?_
  refine al_iconst (v := 2) dL_law_213 (by decide) ?_
  refine al_iadd dL_law_214 ?_
  refine al_sld (i := i + 2) dL_law_215 (by omega) (by omega) (by rw [show (2 : Int32) = nI 2 from rfl, nI_add]) ?_
  refine al_aload dL_law_216 rfl ?_
  refine al_iload dL_law_217 rfl ?_
  refine al_iconst (v := 3) dL_law_218 (by decide) ?_
  refine al_iadd dL_law_219 ?_
  refine al_sld (i := i + 3) dL_law_220 (by omega) (by omega) (by rw [show (3 : Int32) = nI 3 from rfl, nI_add]) ?_
  refine al_call (N := mX7_road) (k := 0) (st := []) [.inl (xs (i + 1)), .inl (xs (i + 2)), .inl (xs (i + 3))] dL_law_221 lkL_18 okX7_road sh_0 rfl rfl (Nat.le_of_ble_eq_true rfl) (ok_road mem hJ) (fun r m1 hq => ?_)
  obtain ⟨v, rfl, hs2⟩ := hq
  show al_Ev X b L xs 224 (al_L X b i) [.int v] m1
  refine al_aload dL_law_224 rfl ?_
  refine al_aload dL_law_225 rfl ?_
  refine al_iload dL_law_226 rfl ?_
  refine al_iconst (v := 1) dL_law_227 (by decide) ?_
  refine al_iadd dL_law_228 ?_
  refine al_sld (i := i + 1) dL_law_229 (by omega) (by omega) (by rw [show (1 : Int32) = nI 1 from rfl, nI_add]) ?_
  refine al_aload dL_law_230 rfl ?_
  refine al_iload dL_law_231 rfl ?_
  refine al_iconst (v := 2) dL_law_232 (by decide) ?_
  refine al_iadd dL_law_233 ?_
  refine al_sld (i := i + 2) dL_law_234 (by omega) (by omega) (by rw [show (2 : Int32) = nI 2 from rfl, nI_add]) ?_
  refine al_aload dL_law_235 rfl ?_
  refine al_iload dL_law_236 rfl ?_
  refine al_iconst (v := 3) dL_law_237 (by decide) ?_
  refine al_iadd dL_law_238 ?_
  refine al_sld (i := i + 3) dL_law_239 (by omega) (by omega) (by rw [show (3 : Int32) = nI 3 from rfl, nI_add]) ?_
  refine al_call (N := mX8_road) (k := 391) (st := [.int v]) [.inl (xs (i + 1)), .inl (xs (i + 2)), .inl (xs (i + 3))] dL_law_240 lkL_22 okX8_road sh_391 rfl rfl (Nat.le_of_ble_eq_true rfl) hs2 (fun r2 m2 hq2 => ?_)
  obtain ⟨rfl, hJ2⟩ := hq2
  show al_Ev X b L xs 243 (al_L X b i) [.int v, .int v] m2
  exact al_icmpeq (t := 1130) dL_law_243 (by decide) (fun _ => K m2 hJ2) (fun h => absurd rfl h)
theorem al_case_2 (hL : L ≤ 3072) (hJ : zJ mem) (hi : i + 6 ≤ L) (K : ∀ mem', zJ mem' → al_Ev X b L xs 1130 (al_L X b i) [] mem') : al_Ev X b L xs 248 (al_L X b i) [] mem := by
  refine al_aload dL_law_248 rfl ?_
  refine al_aload dL_law_249 rfl ?_
  refine al_iload dL_law_250 rfl ?_
  refine al_iconst (v := 1) dL_law_251 (by decide) ?_
  refine al_iadd dL_law_252 ?_
  refine al_sld (i := i + 1) dL_law_253 (by omega) (by omega) (by rw [show (1 : Int32) = nI 1 from rfl, nI_add]) ?_
  refine al_aload dL_law_254 rfl ?_
  refine al_iload dL_law_255 rfl ?_
  refine al_iconst (v := 2) dL_law_256 (by decide) ?_
  refine al_iadd dL_law_257 ?_
  refine al_sld (i := i + 2) dL_law_258 (by omega) (by omega) (by rw [show (2 : Int32) = nI 2 from rfl, nI_add]) ?_
  refine al_call (N := mX7_cut) (k := 0) (st := []) [.inl (xs (i + 1)), .inl (xs (i + 2))] dL_law_259 lkL_23 okX7_cut sh_0 rfl rfl (Nat.le_of_ble_eq_true rfl) (ok_cut mem hJ) (fun r m1 hq => ?_)
  obtain ⟨v, rfl, hs2⟩ := hq
  show al_Ev X b L xs 262 (al_L X b i) [.int v] m1
  refine al_aload dL_law_262 rfl ?_
  refine al_aload dL_law_263 rfl ?_
  refine al_iload dL_law_264 rfl ?_
  refine al_iconst (v := 1) dL_law_265 (by decide) ?_
  refine al_iadd dL_law_266 ?_
  refine al_sld (i := i + 1) dL_law_267 (by omega) (by omega) (by rw [show (1 : Int32) = nI 1 from rfl, nI_add]) ?_
  refine al_aload dL_law_268 rfl ?_
  refine al_iload dL_law_269 rfl ?_
  refine al_iconst (v := 2) dL_law_270 (by decide) ?_
  refine al_iadd dL_law_271 ?_
  refine al_sld (i := i + 2) dL_law_272 (by omega) (by omega) (by rw [show (2 : Int32) = nI 2 from rfl, nI_add]) ?_
  refine al_call (N := mX8_cut) (k := 391) (st := [.int v]) [.inl (xs (i + 1)), .inl (xs (i + 2))] dL_law_273 lkL_27 okX8_cut sh_391 rfl rfl (Nat.le_of_ble_eq_true rfl) hs2 (fun r2 m2 hq2 => ?_)
  obtain ⟨rfl, hJ2⟩ := hq2
  show al_Ev X b L xs 276 (al_L X b i) [.int v, .int v] m2
  exact al_icmpeq (t := 1130) dL_law_276 (by decide) (fun _ => K m2 hJ2) (fun h => absurd rfl h)
theorem al_case_3 (hL : L ≤ 3072) (hJ : zJ mem) (hi : i + 6 ≤ L) (K : ∀ mem', zJ mem' → al_Ev X b L xs 1130 (al_L X b i) [] mem') : al_Ev X b L xs 281 (al_L X b i) [] mem := by
  refine al_aload dL_law_281 rfl ?_
  refine al_aload dL_law_282 rfl ?_
  refine al_iload dL_law_283 rfl ?_
  refine al_iconst (v := 1) dL_law_284 (by decide) ?_
  refine al_iadd dL_law_285 ?_
  refine al_sld (i := i + 1) dL_law_286 (by omega) (by omega) (by rw [show (1 : Int32) = nI 1 from rfl, nI_add]) ?_
  refine al_aload dL_law_287 rfl ?_
  refine al_iload dL_law_288 rfl ?_
  refine al_iconst (v := 2) dL_law_289 (by decide) ?_
  refine al_iadd dL_law_290 ?_
  refine al_sld (i := i + 2) dL_law_291 (by omega) (by omega) (by rw [show (2 : Int32) = nI 2 from rfl, nI_add]) ?_
  refine al_aload dL_law_292 rfl ?_
  refine al_iload dL_law_293 rfl ?_
  refine al_iconst (v := 3) dL_law_294 (by decide) ?_
  refine al_iadd dL_law_295 ?_
  refine al_sld (i := i + 3) dL_law_296 (by omega) (by omega) (by rw [show (3 : Int32) = nI 3 from rfl, nI_add]) ?_
  refine al_aload dL_law_297 rfl ?_
  refine al_iload dL_law_298 rfl ?_
  refine al_iconst (v := 4) dL_law_299 (by decide) ?_
  refine al_iadd dL_law_300 ?_
  refine al_sld (i := i + 4) dL_law_301 (by omega) (by omega) (by rw [show (4 : Int32) = nI 4 from rfl, nI_add]) ?_
  refine al_aload dL_law_302 rfl ?_
  refine al_iload dL_law_303 rfl ?_
  refine al_iconst (v := 5) dL_law_304 (by decide) ?_
  refine al_iadd dL_law_305 ?_
  refine al_sld (i := i + 5) dL_law_306 (by omega) (by omega) (by rw [show (5 : Int32) = nI 5 from rfl, nI_add]) ?_
  refine al_call (N := mX7_feed) (k := 0) (st := []) [.inl (xs (i + 1)), .inl (xs (i + 2)), .inl (xs (i + 3)), .inl (xs (i + 4)), .inl (xs (i + 5))] dL_law_307 lkL_28 okX7_feed sh_0 rfl rfl (Nat.le_of_ble_eq_true rfl) (ok_feed mem hJ) (fun r m1 hq => ?_)
  obtain ⟨v, rfl, hs2⟩ := hq
  show al_Ev X b L xs 310 (al_L X b i) [.int v] m1
  refine al_aload dL_law_310 rfl ?_
  refine al_aload dL_law_311 rfl ?_
  refine al_iload dL_law_312 rfl ?_
  refine al_iconst (v := 1) dL_law_313 (by decide) ?_
  refine al_iadd dL_law_314 ?_
  refine al_sld (i := i + 1) dL_law_315 (by omega) (by omega) (by rw [show (1 : Int32) = nI 1 from rfl, nI_add]) ?_
  refine al_aload dL_law_316 rfl ?_
  refine al_iload dL_law_317 rfl ?_
  refine al_iconst (v := 2) dL_law_318 (by decide) ?_
  refine al_iadd dL_law_319 ?_
  refine al_sld (i := i + 2) dL_law_320 (by omega) (by omega) (by rw [show (2 : Int32) = nI 2 from rfl, nI_add]) ?_
  refine al_aload dL_law_321 rfl ?_
  refine al_iload dL_law_322 rfl ?_
  refine al_iconst (v := 3) dL_law_323 (by decide) ?_
  refine al_iadd dL_law_324 ?_
  refine al_sld (i := i + 3) dL_law_325 (by omega) (by omega) (by rw [show (3 : Int32) = nI 3 from rfl, nI_add]) ?_
  refine al_aload dL_law_326 rfl ?_
  refine al_iload dL_law_327 rfl ?_
  refine al_iconst (v := 4) dL_law_328 (by decide) ?_
  refine al_iadd dL_law_329 ?_
  refine al_sld (i := i + 4) dL_law_330 (by omega) (by omega) (by rw [show (4 : Int32) = nI 4 from rfl, nI_add]) ?_
  refine al_aload dL_law_331 rfl ?_
  refine al_iload dL_law_332 rfl ?_
  refine al_iconst (v := 5) dL_law_333 (by decide) ?_
  refine al_iadd dL_law_334 ?_
  refine al_sld (i := i + 5) dL_law_335 (by omega) (by omega) (by rw [show (5 : Int32) = nI 5 from rfl, nI_add]) ?_
  refine al_call (N := mX8_feed) (k := 391) (st := [.int v]) [.inl (xs (i + 1)), .inl (xs (i + 2)), .inl (xs (i + 3)), .inl (xs (i + 4)), .inl (xs (i + 5))] dL_law_336 lkL_32 okX8_feed sh_391 rfl rfl (Nat.le_of_ble_eq_true rfl) hs2 (fun r2 m2 hq2 => ?_)
  obtain ⟨rfl, hJ2⟩ := hq2
  show al_Ev X b L xs 339 (al_L X b i) [.int v, .int v] m2
  exact al_icmpeq (t := 1130) dL_law_339 (by decide) (fun _ => K m2 hJ2) (fun h => absurd rfl h)
theorem al_case_4 (hL : L ≤ 3072) (hJ : zJ mem) (hi : i + 6 ≤ L) (K : ∀ mem', zJ mem' → al_Ev X b L xs 1130 (al_L X b i) [] mem') : al_Ev X b L xs 344 (al_L X b i) [] mem := by
  refine al_aload dL_law_344 rfl ?_
  refine al_aload dL_law_345 rfl ?_
  refine al_iload dL_law_346 rfl ?_
  refine al_iconst (v := 1) dL_law_347 (by decide) ?_
  refine al_iadd dL_law_348 ?_
  refine al_sld (i := i + 1) dL_law_349 (by omega) (by omega) (by rw [show (1 : Int32) = nI 1 from rfl, nI_add]) ?_
  refine al_call (N := mX7_roads) (k := 0) (st := []) [.inl (xs (i + 1))] dL_law_350 lkL_33 okX7_roads sh_0 rfl rfl (Nat.le_of_ble_eq_true rfl) (ok_roads mem hJ) (fun r m1 hq => ?_)
  obtain ⟨v, rfl, hs2⟩ := hq
  show al_Ev X b L xs 353 (al_L X b i) [.int v] m1
  refine al_aload dL_law_353 rfl ?_
  refine al_aload dL_law_354 rfl ?_
  refine al_iload dL_law_355 rfl ?_
  refine al_iconst (v := 1) dL_law_356 (by decide) ?_
  refine al_iadd dL_law_357 ?_
  refine al_sld (i := i + 1) dL_law_358 (by omega) (by omega) (by rw [show (1 : Int32) = nI 1 from rfl, nI_add]) ?_
  refine al_call (N := mX8_roads) (k := 391) (st := [.int v]) [.inl (xs (i + 1))] dL_law_359 lkL_37 okX8_roads sh_391 rfl rfl (Nat.le_of_ble_eq_true rfl) hs2 (fun r2 m2 hq2 => ?_)
  obtain ⟨rfl, hJ2⟩ := hq2
  show al_Ev X b L xs 362 (al_L X b i) [.int v, .int v] m2
  exact al_icmpeq (t := 1130) dL_law_362 (by decide) (fun _ => K m2 hJ2) (fun h => absurd rfl h)
theorem al_case_5 (hL : L ≤ 3072) (hJ : zJ mem) (hi : i + 6 ≤ L) (K : ∀ mem', zJ mem' → al_Ev X b L xs 1130 (al_L X b i) [] mem') : al_Ev X b L xs 367 (al_L X b i) [] mem := by
  refine al_aload dL_law_367 rfl ?_
  refine al_aload dL_law_368 rfl ?_
  refine al_iload dL_law_369 rfl ?_
  refine al_iconst (v := 1) dL_law_370 (by decide) ?_
  refine al_iadd dL_law_371 ?_
  refine al_sld (i := i + 1) dL_law_372 (by omega) (by omega) (by rw [show (1 : Int32) = nI 1 from rfl, nI_add]) ?_
  refine al_aload dL_law_373 rfl ?_
  refine al_iload dL_law_374 rfl ?_
  refine al_iconst (v := 2) dL_law_375 (by decide) ?_
  refine al_iadd dL_law_376 ?_
  refine al_sld (i := i + 2) dL_law_377 (by omega) (by omega) (by rw [show (2 : Int32) = nI 2 from rfl, nI_add]) ?_
  refine al_call (N := mX7_reach) (k := 0) (st := []) [.inl (xs (i + 1)), .inl (xs (i + 2))] dL_law_378 lkL_38 okX7_reach sh_0 rfl rfl (Nat.le_of_ble_eq_true rfl) (ok_reach mem hJ) (fun r m1 hq => ?_)
  obtain ⟨v, rfl, hs2⟩ := hq
  show al_Ev X b L xs 381 (al_L X b i) [.int v] m1
  refine al_aload dL_law_381 rfl ?_
  refine al_aload dL_law_382 rfl ?_
  refine al_iload dL_law_383 rfl ?_
  refine al_iconst (v := 1) dL_law_384 (by decide) ?_
  refine al_iadd dL_law_385 ?_
  refine al_sld (i := i + 1) dL_law_386 (by omega) (by omega) (by rw [show (1 : Int32) = nI 1 from rfl, nI_add]) ?_
  refine al_aload dL_law_387 rfl ?_
  refine al_iload dL_law_388 rfl ?_
  refine al_iconst (v := 2) dL_law_389 (by decide) ?_
  refine al_iadd dL_law_390 ?_
  refine al_sld (i := i + 2) dL_law_391 (by omega) (by omega) (by rw [show (2 : Int32) = nI 2 from rfl, nI_add]) ?_
  refine al_call (N := mX8_reach) (k := 391) (st := [.int v]) [.inl (xs (i + 1)), .inl (xs (i + 2))] dL_law_392 lkL_41 okX8_reach sh_391 rfl rfl (Nat.le_of_ble_eq_true rfl) hs2 (fun r2 m2 hq2 => ?_)
  obtain ⟨rfl, hJ2⟩ := hq2
  show al_Ev X b L xs 395 (al_L X b i) [.int v, .int v] m2
  exact al_icmpeq (t := 1130) dL_law_395 (by decide) (fun _ => K m2 hJ2) (fun h => absurd rfl h)
theorem al_case_6 (hL : L ≤ 3072) (hJ : zJ mem) (hi : i + 6 ≤ L) (K : ∀ mem', zJ mem' → al_Ev X b L xs 1130 (al_L X b i) [] mem') : al_Ev X b L xs 400 (al_L X b i) [] mem := by
  refine al_aload dL_law_400 rfl ?_
  refine al_aload dL_law_401 rfl ?_
  refine al_iload dL_law_402 rfl ?_
  refine al_iconst (v := 1) dL_law_403 (by decide) ?_
  refine al_iadd dL_law_404 ?_
  refine al_sld (i := i + 1) dL_law_405 (by omega) (by omega) (by rw [show (1 : Int32) = nI 1 from rfl, nI_add]) ?_
  refine al_aload dL_law_406 rfl ?_
  refine al_iload dL_law_407 rfl ?_
  refine al_iconst (v := 2) dL_law_408 (by decide) ?_
  refine al_iadd dL_law_409 ?_
  refine al_sld (i := i + 2) dL_law_410 (by omega) (by omega) (by rw [show (2 : Int32) = nI 2 from rfl, nI_add]) ?_
  refine al_call (N := mX7_price) (k := 0) (st := []) [.inl (xs (i + 1)), .inl (xs (i + 2))] dL_law_411 lkL_42 okX7_price sh_0 rfl rfl (Nat.le_of_ble_eq_true rfl) (ok_price mem hJ) (fun r m1 hq => ?_)
  obtain ⟨v, rfl, hs2⟩ := hq
  show al_Ev X b L xs 414 (al_L X b i) [.int v] m1
  refine al_aload dL_law_414 rfl ?_
  refine al_aload dL_law_415 rfl ?_
  refine al_iload dL_law_416 rfl ?_
  refine al_iconst (v := 1) dL_law_417 (by decide) ?_
  refine al_iadd dL_law_418 ?_
  refine al_sld (i := i + 1) dL_law_419 (by omega) (by omega) (by rw [show (1 : Int32) = nI 1 from rfl, nI_add]) ?_
  refine al_aload dL_law_420 rfl ?_
  refine al_iload dL_law_421 rfl ?_
  refine al_iconst (v := 2) dL_law_422 (by decide) ?_
  refine al_iadd dL_law_423 ?_
  refine al_sld (i := i + 2) dL_law_424 (by omega) (by omega) (by rw [show (2 : Int32) = nI 2 from rfl, nI_add]) ?_
  refine al_call (N := mX8_price) (k := 391) (st := [.int v]) [.inl (xs (i + 1)), .inl (xs (i + 2))] dL_law_425 lkL_45 okX8_price sh_391 rfl rfl (Nat.le_of_ble_eq_true rfl) hs2 (fun r2 m2 hq2 => ?_)
  obtain ⟨rfl, hJ2⟩ := hq2
  show al_Ev X b L xs 428 (al_L X b i) [.int v, .int v] m2
  exact al_icmpeq (t := 1130) dL_law_428 (by decide) (fun _ => K m2 hJ2) (fun h => absurd rfl h)
theorem al_case_7 (hL : L ≤ 3072) (hJ : zJ mem) (hi : i + 6 ≤ L) (K : ∀ mem', zJ mem' → al_Ev X b L xs 1130 (al_L X b i) [] mem') : al_Ev X b L xs 433 (al_L X b i) [] mem := by
  refine al_aload dL_law_433 rfl ?_
  refine al_aload dL_law_434 rfl ?_
  refine al_iload dL_law_435 rfl ?_
  refine al_iconst (v := 1) dL_law_436 (by decide) ?_
  refine al_iadd dL_law_437 ?_
  refine al_sld (i := i + 1) dL_law_438 (by omega) (by omega) (by rw [show (1 : Int32) = nI 1 from rfl, nI_add]) ?_
  refine al_aload dL_law_439 rfl ?_
  refine al_iload dL_law_440 rfl ?_
  refine al_iconst (v := 2) dL_law_441 (by decide) ?_
  refine al_iadd dL_law_442 ?_
  refine al_sld (i := i + 2) dL_law_443 (by omega) (by omega) (by rw [show (2 : Int32) = nI 2 from rfl, nI_add]) ?_
  refine al_call (N := mX7_chance) (k := 0) (st := []) [.inl (xs (i + 1)), .inl (xs (i + 2))] dL_law_444 lkL_46 okX7_chance sh_0 rfl rfl (Nat.le_of_ble_eq_true rfl) (ok_chance mem hJ) (fun r m1 hq => ?_)
  obtain ⟨v, rfl, hs2⟩ := hq
  show al_Ev X b L xs 447 (al_L X b i) [.int v] m1
  refine al_aload dL_law_447 rfl ?_
  refine al_aload dL_law_448 rfl ?_
  refine al_iload dL_law_449 rfl ?_
  refine al_iconst (v := 1) dL_law_450 (by decide) ?_
  refine al_iadd dL_law_451 ?_
  refine al_sld (i := i + 1) dL_law_452 (by omega) (by omega) (by rw [show (1 : Int32) = nI 1 from rfl, nI_add]) ?_
  refine al_aload dL_law_453 rfl ?_
  refine al_iload dL_law_454 rfl ?_
  refine al_iconst (v := 2) dL_law_455 (by decide) ?_
  refine al_iadd dL_law_456 ?_
  refine al_sld (i := i + 2) dL_law_457 (by omega) (by omega) (by rw [show (2 : Int32) = nI 2 from rfl, nI_add]) ?_
  refine al_call (N := mX8_chance) (k := 391) (st := [.int v]) [.inl (xs (i + 1)), .inl (xs (i + 2))] dL_law_458 lkL_49 okX8_chance sh_391 rfl rfl (Nat.le_of_ble_eq_true rfl) hs2 (fun r2 m2 hq2 => ?_)
  obtain ⟨rfl, hJ2⟩ := hq2
  show al_Ev X b L xs 461 (al_L X b i) [.int v, .int v] m2
  exact al_icmpeq (t := 1130) dL_law_461 (by decide) (fun _ => K m2 hJ2) (fun h => absurd rfl h)
theorem al_case_8 (hL : L ≤ 3072) (hJ : zJ mem) (hi : i + 6 ≤ L) (K : ∀ mem', zJ mem' → al_Ev X b L xs 1130 (al_L X b i) [] mem') : al_Ev X b L xs 466 (al_L X b i) [] mem := by
  refine al_aload dL_law_466 rfl ?_
  refine al_aload dL_law_467 rfl ?_
  refine al_iload dL_law_468 rfl ?_
  refine al_iconst (v := 1) dL_law_469 (by decide) ?_
  refine al_iadd dL_law_470 ?_
  refine al_sld (i := i + 1) dL_law_471 (by omega) (by omega) (by rw [show (1 : Int32) = nI 1 from rfl, nI_add]) ?_
  refine al_aload dL_law_472 rfl ?_
  refine al_iload dL_law_473 rfl ?_
  refine al_iconst (v := 2) dL_law_474 (by decide) ?_
  refine al_iadd dL_law_475 ?_
  refine al_sld (i := i + 2) dL_law_476 (by omega) (by omega) (by rw [show (2 : Int32) = nI 2 from rfl, nI_add]) ?_
  refine al_call (N := mX7_rule) (k := 0) (st := []) [.inl (xs (i + 1)), .inl (xs (i + 2))] dL_law_477 lkL_50 okX7_rule sh_0 rfl rfl (Nat.le_of_ble_eq_true rfl) (ok_rule mem hJ) (fun r m1 hq => ?_)
  obtain ⟨v, rfl, hs2⟩ := hq
  show al_Ev X b L xs 480 (al_L X b i) [.int v] m1
  refine al_aload dL_law_480 rfl ?_
  refine al_aload dL_law_481 rfl ?_
  refine al_iload dL_law_482 rfl ?_
  refine al_iconst (v := 1) dL_law_483 (by decide) ?_
  refine al_iadd dL_law_484 ?_
  refine al_sld (i := i + 1) dL_law_485 (by omega) (by omega) (by rw [show (1 : Int32) = nI 1 from rfl, nI_add]) ?_
  refine al_aload dL_law_486 rfl ?_
  refine al_iload dL_law_487 rfl ?_
  refine al_iconst (v := 2) dL_law_488 (by decide) ?_
  refine al_iadd dL_law_489 ?_
  refine al_sld (i := i + 2) dL_law_490 (by omega) (by omega) (by rw [show (2 : Int32) = nI 2 from rfl, nI_add]) ?_
  refine al_call (N := mX8_rule) (k := 391) (st := [.int v]) [.inl (xs (i + 1)), .inl (xs (i + 2))] dL_law_491 lkL_53 okX8_rule sh_391 rfl rfl (Nat.le_of_ble_eq_true rfl) hs2 (fun r2 m2 hq2 => ?_)
  obtain ⟨rfl, hJ2⟩ := hq2
  show al_Ev X b L xs 494 (al_L X b i) [.int v, .int v] m2
  exact al_icmpeq (t := 1130) dL_law_494 (by decide) (fun _ => K m2 hJ2) (fun h => absurd rfl h)
theorem al_case_9 (hL : L ≤ 3072) (hJ : zJ mem) (hi : i + 6 ≤ L) (K : ∀ mem', zJ mem' → al_Ev X b L xs 1130 (al_L X b i) [] mem') : al_Ev X b L xs 499 (al_L X b i) [] mem := by
  refine al_aload dL_law_499 rfl ?_
  refine al_aload dL_law_500 rfl ?_
  refine al_iload dL_law_501 rfl ?_
  refine al_iconst (v := 1) dL_law_502 (by decide) ?_
  refine al_iadd dL_law_503 ?_
  refine al_sld (i := i + 1) dL_law_504 (by omega) (by omega) (by rw [show (1 : Int32) = nI 1 from rfl, nI_add]) ?_
  refine al_aload dL_law_505 rfl ?_
  refine al_iload dL_law_506 rfl ?_
  refine al_iconst (v := 2) dL_law_507 (by decide) ?_
  refine al_iadd dL_law_508 ?_
  refine al_sld (i := i + 2) dL_law_509 (by omega) (by omega) (by rw [show (2 : Int32) = nI 2 from rfl, nI_add]) ?_
  refine al_ifeq (t := 517) dL_law_510 (by decide) (fun hz => ?_) (fun hz => ?_)
  · refine al_iconst (v := 0) dL_law_517 (by decide) ?_
    refine al_call (N := mX7_may) (k := 0) (st := []) [.inl (xs (i + 1)), .inl 0] dL_law_518 lkL_54 okX7_may sh_0 rfl rfl (Nat.le_of_ble_eq_true rfl) (ok_may (Or.inl rfl) mem hJ) (fun r m1 hq => ?_)
    obtain ⟨v, rfl, hs2⟩ := hq
    show al_Ev X b L xs 521 (al_L X b i) [.int v] m1
    refine al_aload dL_law_521 rfl ?_
    refine al_aload dL_law_522 rfl ?_
    refine al_iload dL_law_523 rfl ?_
    refine al_iconst (v := 1) dL_law_524 (by decide) ?_
    refine al_iadd dL_law_525 ?_
    refine al_sld (i := i + 1) dL_law_526 (by omega) (by omega) (by rw [show (1 : Int32) = nI 1 from rfl, nI_add]) ?_
    refine al_aload dL_law_527 rfl ?_
    refine al_iload dL_law_528 rfl ?_
    refine al_iconst (v := 2) dL_law_529 (by decide) ?_
    refine al_iadd dL_law_530 ?_
    refine al_sld (i := i + 2) dL_law_531 (by omega) (by omega) (by rw [show (2 : Int32) = nI 2 from rfl, nI_add]) ?_
    refine al_ifeq (t := 539) dL_law_532 (by decide) (fun _ => ?_) (fun h => absurd hz h)
    refine al_iconst (v := 0) dL_law_539 (by decide) ?_
    refine al_call (N := mX8_may) (k := 391) (st := [.int v]) [.inl (xs (i + 1)), .inl 0] dL_law_540 lkL_58 okX8_may sh_391 rfl rfl (Nat.le_of_ble_eq_true rfl) hs2 (fun r2 m2 hq2 => ?_)
    obtain ⟨rfl, hJ2⟩ := hq2
    show al_Ev X b L xs 543 (al_L X b i) [.int v, .int v] m2
    exact al_icmpeq (t := 1130) dL_law_543 (by decide) (fun _ => K m2 hJ2) (fun h => absurd rfl h)
  · refine al_iconst (v := 1) dL_law_513 (by decide) ?_
    refine al_goto (t := 518) dL_law_514 (by decide) ?_
    refine al_call (N := mX7_may) (k := 0) (st := []) [.inl (xs (i + 1)), .inl 1] dL_law_518 lkL_54 okX7_may sh_0 rfl rfl (Nat.le_of_ble_eq_true rfl) (ok_may (Or.inr rfl) mem hJ) (fun r m1 hq => ?_)
    obtain ⟨v, rfl, hs2⟩ := hq
    show al_Ev X b L xs 521 (al_L X b i) [.int v] m1
    refine al_aload dL_law_521 rfl ?_
    refine al_aload dL_law_522 rfl ?_
    refine al_iload dL_law_523 rfl ?_
    refine al_iconst (v := 1) dL_law_524 (by decide) ?_
    refine al_iadd dL_law_525 ?_
    refine al_sld (i := i + 1) dL_law_526 (by omega) (by omega) (by rw [show (1 : Int32) = nI 1 from rfl, nI_add]) ?_
    refine al_aload dL_law_527 rfl ?_
    refine al_iload dL_law_528 rfl ?_
    refine al_iconst (v := 2) dL_law_529 (by decide) ?_
    refine al_iadd dL_law_530 ?_
    refine al_sld (i := i + 2) dL_law_531 (by omega) (by omega) (by rw [show (2 : Int32) = nI 2 from rfl, nI_add]) ?_
    refine al_ifeq (t := 539) dL_law_532 (by decide) (fun h => absurd h hz) (fun _ => ?_)
    refine al_iconst (v := 1) dL_law_535 (by decide) ?_
    refine al_goto (t := 540) dL_law_536 (by decide) ?_
    refine al_call (N := mX8_may) (k := 391) (st := [.int v]) [.inl (xs (i + 1)), .inl 1] dL_law_540 lkL_58 okX8_may sh_391 rfl rfl (Nat.le_of_ble_eq_true rfl) hs2 (fun r2 m2 hq2 => ?_)
    obtain ⟨rfl, hJ2⟩ := hq2
    show al_Ev X b L xs 543 (al_L X b i) [.int v, .int v] m2
    exact al_icmpeq (t := 1130) dL_law_543 (by decide) (fun _ => K m2 hJ2) (fun h => absurd rfl h)
theorem al_case_10 (hL : L ≤ 3072) (hJ : zJ mem) (hi : i + 6 ≤ L) (K : ∀ mem', zJ mem' → al_Ev X b L xs 1130 (al_L X b i) [] mem') : al_Ev X b L xs 548 (al_L X b i) [] mem := by
  refine al_aload dL_law_548 rfl ?_
  refine al_aload dL_law_549 rfl ?_
  refine al_iload dL_law_550 rfl ?_
  refine al_iconst (v := 1) dL_law_551 (by decide) ?_
  refine al_iadd dL_law_552 ?_
  refine al_sld (i := i + 1) dL_law_553 (by omega) (by omega) (by rw [show (1 : Int32) = nI 1 from rfl, nI_add]) ?_
  refine al_ifeq (t := 561) dL_law_554 (by decide) (fun hz => ?_) (fun hz => ?_)
  · refine al_iconst (v := 0) dL_law_561 (by decide) ?_
    refine al_call (N := mX7_want) (k := 0) (st := []) [.inl 0] dL_law_562 lkL_59 okX7_want sh_0 rfl rfl (Nat.le_of_ble_eq_true rfl) (ok_want (Or.inl rfl) mem hJ) (fun r m1 hq => ?_)
    obtain ⟨rfl, hs2⟩ := hq
    show al_Ev X b L xs 565 (al_L X b i) [] m1
    refine al_aload dL_law_565 rfl ?_
    refine al_aload dL_law_566 rfl ?_
    refine al_iload dL_law_567 rfl ?_
    refine al_iconst (v := 1) dL_law_568 (by decide) ?_
    refine al_iadd dL_law_569 ?_
    refine al_sld (i := i + 1) dL_law_570 (by omega) (by omega) (by rw [show (1 : Int32) = nI 1 from rfl, nI_add]) ?_
    refine al_ifeq (t := 578) dL_law_571 (by decide) (fun _ => ?_) (fun h => absurd hz h)
    refine al_iconst (v := 0) dL_law_578 (by decide) ?_
    refine al_call (N := mX8_want) (k := 391) (st := []) [.inl 0] dL_law_579 lkL_63 okX8_want sh_391 rfl rfl (Nat.le_of_ble_eq_true rfl) hs2 (fun r2 m2 hq2 => ?_)
    obtain ⟨rfl, hJ2⟩ := hq2
    show al_Ev X b L xs 582 (al_L X b i) [] m2
    refine al_goto (t := 1130) dL_law_582 (by decide) ?_
    exact K _ hJ2
  · refine al_iconst (v := 1) dL_law_557 (by decide) ?_
    refine al_goto (t := 562) dL_law_558 (by decide) ?_
    refine al_call (N := mX7_want) (k := 0) (st := []) [.inl 1] dL_law_562 lkL_59 okX7_want sh_0 rfl rfl (Nat.le_of_ble_eq_true rfl) (ok_want (Or.inr rfl) mem hJ) (fun r m1 hq => ?_)
    obtain ⟨rfl, hs2⟩ := hq
    show al_Ev X b L xs 565 (al_L X b i) [] m1
    refine al_aload dL_law_565 rfl ?_
    refine al_aload dL_law_566 rfl ?_
    refine al_iload dL_law_567 rfl ?_
    refine al_iconst (v := 1) dL_law_568 (by decide) ?_
    refine al_iadd dL_law_569 ?_
    refine al_sld (i := i + 1) dL_law_570 (by omega) (by omega) (by rw [show (1 : Int32) = nI 1 from rfl, nI_add]) ?_
    refine al_ifeq (t := 578) dL_law_571 (by decide) (fun h => absurd h hz) (fun _ => ?_)
    refine al_iconst (v := 1) dL_law_574 (by decide) ?_
    refine al_goto (t := 579) dL_law_575 (by decide) ?_
    refine al_call (N := mX8_want) (k := 391) (st := []) [.inl 1] dL_law_579 lkL_63 okX8_want sh_391 rfl rfl (Nat.le_of_ble_eq_true rfl) hs2 (fun r2 m2 hq2 => ?_)
    obtain ⟨rfl, hJ2⟩ := hq2
    show al_Ev X b L xs 582 (al_L X b i) [] m2
    refine al_goto (t := 1130) dL_law_582 (by decide) ?_
    exact K _ hJ2
theorem al_case_11 (hL : L ≤ 3072) (hJ : zJ mem) (hi : i + 6 ≤ L) (K : ∀ mem', zJ mem' → al_Ev X b L xs 1130 (al_L X b i) [] mem') : al_Ev X b L xs 585 (al_L X b i) [] mem := by
  refine al_aload dL_law_585 rfl ?_
  refine al_aload dL_law_586 rfl ?_
  refine al_iload dL_law_587 rfl ?_
  refine al_iconst (v := 1) dL_law_588 (by decide) ?_
  refine al_iadd dL_law_589 ?_
  refine al_sld (i := i + 1) dL_law_590 (by omega) (by omega) (by rw [show (1 : Int32) = nI 1 from rfl, nI_add]) ?_
  refine al_aload dL_law_591 rfl ?_
  refine al_iload dL_law_592 rfl ?_
  refine al_iconst (v := 2) dL_law_593 (by decide) ?_
  refine al_iadd dL_law_594 ?_
  refine al_sld (i := i + 2) dL_law_595 (by omega) (by omega) (by rw [show (2 : Int32) = nI 2 from rfl, nI_add]) ?_
  refine al_call (N := mX7_way) (k := 0) (st := []) [.inl (xs (i + 1)), .inl (xs (i + 2))] dL_law_596 lkL_64 okX7_way sh_0 rfl rfl (Nat.le_of_ble_eq_true rfl) (ok_way mem hJ) (fun r m1 hq => ?_)
  obtain ⟨v, rfl, hs2⟩ := hq
  show al_Ev X b L xs 599 (al_L X b i) [.int v] m1
  refine al_aload dL_law_599 rfl ?_
  refine al_aload dL_law_600 rfl ?_
  refine al_iload dL_law_601 rfl ?_
  refine al_iconst (v := 1) dL_law_602 (by decide) ?_
  refine al_iadd dL_law_603 ?_
  refine al_sld (i := i + 1) dL_law_604 (by omega) (by omega) (by rw [show (1 : Int32) = nI 1 from rfl, nI_add]) ?_
  refine al_aload dL_law_605 rfl ?_
  refine al_iload dL_law_606 rfl ?_
  refine al_iconst (v := 2) dL_law_607 (by decide) ?_
  refine al_iadd dL_law_608 ?_
  refine al_sld (i := i + 2) dL_law_609 (by omega) (by omega) (by rw [show (2 : Int32) = nI 2 from rfl, nI_add]) ?_
  refine al_call (N := mX8_way) (k := 391) (st := [.int v]) [.inl (xs (i + 1)), .inl (xs (i + 2))] dL_law_610 lkL_68 okX8_way sh_391 rfl rfl (Nat.le_of_ble_eq_true rfl) hs2 (fun r2 m2 hq2 => ?_)
  obtain ⟨rfl, hJ2⟩ := hq2
  show al_Ev X b L xs 613 (al_L X b i) [.int v, .int v] m2
  exact al_icmpeq (t := 1130) dL_law_613 (by decide) (fun _ => K m2 hJ2) (fun h => absurd rfl h)
theorem al_case_12 (hL : L ≤ 3072) (hJ : zJ mem) (hi : i + 6 ≤ L) (K : ∀ mem', zJ mem' → al_Ev X b L xs 1130 (al_L X b i) [] mem') : al_Ev X b L xs 618 (al_L X b i) [] mem := by
  refine al_aload dL_law_618 rfl ?_
  refine al_aload dL_law_619 rfl ?_
  refine al_iload dL_law_620 rfl ?_
  refine al_iconst (v := 1) dL_law_621 (by decide) ?_
  refine al_iadd dL_law_622 ?_
  refine al_sld (i := i + 1) dL_law_623 (by omega) (by omega) (by rw [show (1 : Int32) = nI 1 from rfl, nI_add]) ?_
  refine al_aload dL_law_624 rfl ?_
  refine al_iload dL_law_625 rfl ?_
  refine al_iconst (v := 2) dL_law_626 (by decide) ?_
  refine al_iadd dL_law_627 ?_
  refine al_sld (i := i + 2) dL_law_628 (by omega) (by omega) (by rw [show (2 : Int32) = nI 2 from rfl, nI_add]) ?_
  refine al_call (N := mX7_of) (k := 0) (st := []) [.inl (xs (i + 1)), .inl (xs (i + 2))] dL_law_629 lkL_69 okX7_of sh_0 rfl rfl (Nat.le_of_ble_eq_true rfl) (ok_of mem hJ) (fun r m1 hq => ?_)
  obtain ⟨v, rfl, hs2⟩ := hq
  show al_Ev X b L xs 632 (al_L X b i) [.int v] m1
  refine al_aload dL_law_632 rfl ?_
  refine al_aload dL_law_633 rfl ?_
  refine al_iload dL_law_634 rfl ?_
  refine al_iconst (v := 1) dL_law_635 (by decide) ?_
  refine al_iadd dL_law_636 ?_
  refine al_sld (i := i + 1) dL_law_637 (by omega) (by omega) (by rw [show (1 : Int32) = nI 1 from rfl, nI_add]) ?_
  refine al_aload dL_law_638 rfl ?_
  refine al_iload dL_law_639 rfl ?_
  refine al_iconst (v := 2) dL_law_640 (by decide) ?_
  refine al_iadd dL_law_641 ?_
  refine al_sld (i := i + 2) dL_law_642 (by omega) (by omega) (by rw [show (2 : Int32) = nI 2 from rfl, nI_add]) ?_
  refine al_call (N := mX8_of) (k := 391) (st := [.int v]) [.inl (xs (i + 1)), .inl (xs (i + 2))] dL_law_643 lkL_72 okX8_of sh_391 rfl rfl (Nat.le_of_ble_eq_true rfl) hs2 (fun r2 m2 hq2 => ?_)
  obtain ⟨rfl, hJ2⟩ := hq2
  show al_Ev X b L xs 646 (al_L X b i) [.int v, .int v] m2
  exact al_icmpeq (t := 1130) dL_law_646 (by decide) (fun _ => K m2 hJ2) (fun h => absurd rfl h)
theorem al_case_13 (hL : L ≤ 3072) (hJ : zJ mem) (hi : i + 6 ≤ L) (K : ∀ mem', zJ mem' → al_Ev X b L xs 1130 (al_L X b i) [] mem') : al_Ev X b L xs 651 (al_L X b i) [] mem := by
  refine al_aload dL_law_651 rfl ?_
  refine al_aload dL_law_652 rfl ?_
  refine al_iload dL_law_653 rfl ?_
  refine al_iconst (v := 1) dL_law_654 (by decide) ?_
  refine al_iadd dL_law_655 ?_
  refine al_sld (i := i + 1) dL_law_656 (by omega) (by omega) (by rw [show (1 : Int32) = nI 1 from rfl, nI_add]) ?_
  refine al_aload dL_law_657 rfl ?_
  refine al_iload dL_law_658 rfl ?_
  refine al_iconst (v := 2) dL_law_659 (by decide) ?_
  refine al_iadd dL_law_660 ?_
  refine al_sld (i := i + 2) dL_law_661 (by omega) (by omega) (by rw [show (2 : Int32) = nI 2 from rfl, nI_add]) ?_
  refine al_call (N := mX7_answer) (k := 0) (st := []) [.inl (xs (i + 1)), .inl (xs (i + 2))] dL_law_662 lkL_73 okX7_answer sh_0 rfl rfl (Nat.le_of_ble_eq_true rfl) (ok_answer mem hJ) (fun r m1 hq => ?_)
  obtain ⟨v, rfl, hs2⟩ := hq
  show al_Ev X b L xs 665 (al_L X b i) [.int v] m1
  refine al_aload dL_law_665 rfl ?_
  refine al_aload dL_law_666 rfl ?_
  refine al_iload dL_law_667 rfl ?_
  refine al_iconst (v := 1) dL_law_668 (by decide) ?_
  refine al_iadd dL_law_669 ?_
  refine al_sld (i := i + 1) dL_law_670 (by omega) (by omega) (by rw [show (1 : Int32) = nI 1 from rfl, nI_add]) ?_
  refine al_aload dL_law_671 rfl ?_
  refine al_iload dL_law_672 rfl ?_
  refine al_iconst (v := 2) dL_law_673 (by decide) ?_
  refine al_iadd dL_law_674 ?_
  refine al_sld (i := i + 2) dL_law_675 (by omega) (by omega) (by rw [show (2 : Int32) = nI 2 from rfl, nI_add]) ?_
  refine al_call (N := mX8_answer) (k := 391) (st := [.int v]) [.inl (xs (i + 1)), .inl (xs (i + 2))] dL_law_676 lkL_76 okX8_answer sh_391 rfl rfl (Nat.le_of_ble_eq_true rfl) hs2 (fun r2 m2 hq2 => ?_)
  obtain ⟨rfl, hJ2⟩ := hq2
  show al_Ev X b L xs 679 (al_L X b i) [.int v, .int v] m2
  exact al_icmpeq (t := 1130) dL_law_679 (by decide) (fun _ => K m2 hJ2) (fun h => absurd rfl h)
theorem al_case_14 (hL : L ≤ 3072) (hJ : zJ mem) (hi : i + 6 ≤ L) (K : ∀ mem', zJ mem' → al_Ev X b L xs 1130 (al_L X b i) [] mem') : al_Ev X b L xs 684 (al_L X b i) [] mem := by
  refine al_aload dL_law_684 rfl ?_
  refine al_aload dL_law_685 rfl ?_
  refine al_iload dL_law_686 rfl ?_
  refine al_iconst (v := 1) dL_law_687 (by decide) ?_
  refine al_iadd dL_law_688 ?_
  refine al_sld (i := i + 1) dL_law_689 (by omega) (by omega) (by rw [show (1 : Int32) = nI 1 from rfl, nI_add]) ?_
  refine al_aload dL_law_690 rfl ?_
  refine al_iload dL_law_691 rfl ?_
  refine al_iconst (v := 2) dL_law_692 (by decide) ?_
  refine al_iadd dL_law_693 ?_
  refine al_sld (i := i + 2) dL_law_694 (by omega) (by omega) (by rw [show (2 : Int32) = nI 2 from rfl, nI_add]) ?_
  refine al_aload dL_law_695 rfl ?_
  refine al_iload dL_law_696 rfl ?_
  refine al_iconst (v := 3) dL_law_697 (by decide) ?_
  refine al_iadd dL_law_698 ?_
  refine al_sld (i := i + 3) dL_law_699 (by omega) (by omega) (by rw [show (3 : Int32) = nI 3 from rfl, nI_add]) ?_
  refine al_call (N := mX7_parts) (k := 0) (st := []) [.inl (xs (i + 1)), .inl (xs (i + 2)), .inl (xs (i + 3))] dL_law_700 lkL_77 okX7_parts sh_0 rfl rfl (Nat.le_of_ble_eq_true rfl) (ok_parts mem hJ) (fun r m1 hq => ?_)
  obtain ⟨v, rfl, hs2⟩ := hq
  show al_Ev X b L xs 703 (al_L X b i) [.int v] m1
  refine al_aload dL_law_703 rfl ?_
  refine al_aload dL_law_704 rfl ?_
  refine al_iload dL_law_705 rfl ?_
  refine al_iconst (v := 1) dL_law_706 (by decide) ?_
  refine al_iadd dL_law_707 ?_
  refine al_sld (i := i + 1) dL_law_708 (by omega) (by omega) (by rw [show (1 : Int32) = nI 1 from rfl, nI_add]) ?_
  refine al_aload dL_law_709 rfl ?_
  refine al_iload dL_law_710 rfl ?_
  refine al_iconst (v := 2) dL_law_711 (by decide) ?_
  refine al_iadd dL_law_712 ?_
  refine al_sld (i := i + 2) dL_law_713 (by omega) (by omega) (by rw [show (2 : Int32) = nI 2 from rfl, nI_add]) ?_
  refine al_aload dL_law_714 rfl ?_
  refine al_iload dL_law_715 rfl ?_
  refine al_iconst (v := 3) dL_law_716 (by decide) ?_
  refine al_iadd dL_law_717 ?_
  refine al_sld (i := i + 3) dL_law_718 (by omega) (by omega) (by rw [show (3 : Int32) = nI 3 from rfl, nI_add]) ?_
  refine al_call (N := mX8_parts) (k := 391) (st := [.int v]) [.inl (xs (i + 1)), .inl (xs (i + 2)), .inl (xs (i + 3))] dL_law_719 lkL_81 okX8_parts sh_391 rfl rfl (Nat.le_of_ble_eq_true rfl) hs2 (fun r2 m2 hq2 => ?_)
  obtain ⟨rfl, hJ2⟩ := hq2
  show al_Ev X b L xs 722 (al_L X b i) [.int v, .int v] m2
  exact al_icmpeq (t := 1130) dL_law_722 (by decide) (fun _ => K m2 hJ2) (fun h => absurd rfl h)
theorem al_case_15 (hL : L ≤ 3072) (hJ : zJ mem) (hi : i + 6 ≤ L) (K : ∀ mem', zJ mem' → al_Ev X b L xs 1130 (al_L X b i) [] mem') : al_Ev X b L xs 727 (al_L X b i) [] mem := by
  refine al_aload dL_law_727 rfl ?_
  refine al_aload dL_law_728 rfl ?_
  refine al_iload dL_law_729 rfl ?_
  refine al_iconst (v := 1) dL_law_730 (by decide) ?_
  refine al_iadd dL_law_731 ?_
  refine al_sld (i := i + 1) dL_law_732 (by omega) (by omega) (by rw [show (1 : Int32) = nI 1 from rfl, nI_add]) ?_
  refine al_call (N := mX7_clash) (k := 0) (st := []) [.inl (xs (i + 1))] dL_law_733 lkL_82 okX7_clash sh_0 rfl rfl (Nat.le_of_ble_eq_true rfl) (ok_clash mem hJ) (fun r m1 hq => ?_)
  obtain ⟨v, rfl, hs2⟩ := hq
  show al_Ev X b L xs 736 (al_L X b i) [.int v] m1
  refine al_aload dL_law_736 rfl ?_
  refine al_aload dL_law_737 rfl ?_
  refine al_iload dL_law_738 rfl ?_
  refine al_iconst (v := 1) dL_law_739 (by decide) ?_
  refine al_iadd dL_law_740 ?_
  refine al_sld (i := i + 1) dL_law_741 (by omega) (by omega) (by rw [show (1 : Int32) = nI 1 from rfl, nI_add]) ?_
  refine al_call (N := mX8_clash) (k := 391) (st := [.int v]) [.inl (xs (i + 1))] dL_law_742 lkL_85 okX8_clash sh_391 rfl rfl (Nat.le_of_ble_eq_true rfl) hs2 (fun r2 m2 hq2 => ?_)
  obtain ⟨rfl, hJ2⟩ := hq2
  show al_Ev X b L xs 745 (al_L X b i) [.int v, .int v] m2
  exact al_icmpeq (t := 1130) dL_law_745 (by decide) (fun _ => K m2 hJ2) (fun h => absurd rfl h)
theorem al_case_16 (hL : L ≤ 3072) (hJ : zJ mem) (hi : i + 6 ≤ L) (K : ∀ mem', zJ mem' → al_Ev X b L xs 1130 (al_L X b i) [] mem') : al_Ev X b L xs 750 (al_L X b i) [] mem := by
  refine al_aload dL_law_750 rfl ?_
  refine al_aload dL_law_751 rfl ?_
  refine al_iload dL_law_752 rfl ?_
  refine al_iconst (v := 1) dL_law_753 (by decide) ?_
  refine al_iadd dL_law_754 ?_
  refine al_sld (i := i + 1) dL_law_755 (by omega) (by omega) (by rw [show (1 : Int32) = nI 1 from rfl, nI_add]) ?_
  refine al_call (N := mX7_twins) (k := 0) (st := []) [.inl (xs (i + 1))] dL_law_756 lkL_86 okX7_twins sh_0 rfl rfl (Nat.le_of_ble_eq_true rfl) (ok_twins mem hJ) (fun r m1 hq => ?_)
  obtain ⟨v, rfl, hs2⟩ := hq
  show al_Ev X b L xs 759 (al_L X b i) [.int v] m1
  refine al_aload dL_law_759 rfl ?_
  refine al_aload dL_law_760 rfl ?_
  refine al_iload dL_law_761 rfl ?_
  refine al_iconst (v := 1) dL_law_762 (by decide) ?_
  refine al_iadd dL_law_763 ?_
  refine al_sld (i := i + 1) dL_law_764 (by omega) (by omega) (by rw [show (1 : Int32) = nI 1 from rfl, nI_add]) ?_
  refine al_call (N := mX8_twins) (k := 391) (st := [.int v]) [.inl (xs (i + 1))] dL_law_765 lkL_89 okX8_twins sh_391 rfl rfl (Nat.le_of_ble_eq_true rfl) hs2 (fun r2 m2 hq2 => ?_)
  obtain ⟨rfl, hJ2⟩ := hq2
  show al_Ev X b L xs 768 (al_L X b i) [.int v, .int v] m2
  exact al_icmpeq (t := 1130) dL_law_768 (by decide) (fun _ => K m2 hJ2) (fun h => absurd rfl h)
theorem al_case_17 (hL : L ≤ 3072) (hJ : zJ mem) (hi : i + 6 ≤ L) (K : ∀ mem', zJ mem' → al_Ev X b L xs 1130 (al_L X b i) [] mem') : al_Ev X b L xs 773 (al_L X b i) [] mem := by
  refine al_aload dL_law_773 rfl ?_
  refine al_call (N := mX7_least) (k := 0) (st := []) [] dL_law_774 lkL_90 okX7_least sh_0 rfl rfl (Nat.le_of_ble_eq_true rfl) (ok_least mem hJ) (fun r m1 hq => ?_)
  obtain ⟨v, rfl, hs2⟩ := hq
  show al_Ev X b L xs 777 (al_L X b i) [.int v] m1
  refine al_aload dL_law_777 rfl ?_
  refine al_call (N := mX8_least) (k := 391) (st := [.int v]) [] dL_law_778 lkL_93 okX8_least sh_391 rfl rfl (Nat.le_of_ble_eq_true rfl) hs2 (fun r2 m2 hq2 => ?_)
  obtain ⟨rfl, hJ2⟩ := hq2
  show al_Ev X b L xs 781 (al_L X b i) [.int v, .int v] m2
  exact al_icmpeq (t := 1130) dL_law_781 (by decide) (fun _ => K m2 hJ2) (fun h => absurd rfl h)
theorem al_case_18 (hL : L ≤ 3072) (hJ : zJ mem) (hi : i + 6 ≤ L) (K : ∀ mem', zJ mem' → al_Ev X b L xs 1130 (al_L X b i) [] mem') : al_Ev X b L xs 786 (al_L X b i) [] mem := by
  refine al_aload dL_law_786 rfl ?_
  refine al_call (N := mX7_every) (k := 0) (st := []) [] dL_law_787 lkL_94 okX7_every sh_0 rfl rfl (Nat.le_of_ble_eq_true rfl) (ok_every mem hJ) (fun r m1 hq => ?_)
  obtain ⟨v, rfl, hs2⟩ := hq
  show al_Ev X b L xs 790 (al_L X b i) [.int v] m1
  refine al_aload dL_law_790 rfl ?_
  refine al_call (N := mX8_every) (k := 391) (st := [.int v]) [] dL_law_791 lkL_97 okX8_every sh_391 rfl rfl (Nat.le_of_ble_eq_true rfl) hs2 (fun r2 m2 hq2 => ?_)
  obtain ⟨rfl, hJ2⟩ := hq2
  show al_Ev X b L xs 794 (al_L X b i) [.int v, .int v] m2
  exact al_icmpeq (t := 1130) dL_law_794 (by decide) (fun _ => K m2 hJ2) (fun h => absurd rfl h)
theorem al_case_19 (hL : L ≤ 3072) (hJ : zJ mem) (hi : i + 6 ≤ L) (K : ∀ mem', zJ mem' → al_Ev X b L xs 1130 (al_L X b i) [] mem') : al_Ev X b L xs 799 (al_L X b i) [] mem := by
  refine al_aload dL_law_799 rfl ?_
  refine al_call (N := mX7_cheapest) (k := 0) (st := []) [] dL_law_800 lkL_98 okX7_cheapest sh_0 rfl rfl (Nat.le_of_ble_eq_true rfl) (ok_cheapest mem hJ) (fun r m1 hq => ?_)
  obtain ⟨v, rfl, hs2⟩ := hq
  show al_Ev X b L xs 803 (al_L X b i) [.int v] m1
  refine al_aload dL_law_803 rfl ?_
  refine al_call (N := mX8_cheapest) (k := 391) (st := [.int v]) [] dL_law_804 lkL_101 okX8_cheapest sh_391 rfl rfl (Nat.le_of_ble_eq_true rfl) hs2 (fun r2 m2 hq2 => ?_)
  obtain ⟨rfl, hJ2⟩ := hq2
  show al_Ev X b L xs 807 (al_L X b i) [.int v, .int v] m2
  exact al_icmpeq (t := 1130) dL_law_807 (by decide) (fun _ => K m2 hJ2) (fun h => absurd rfl h)
theorem al_case_20 (hL : L ≤ 3072) (hJ : zJ mem) (hi : i + 6 ≤ L) (K : ∀ mem', zJ mem' → al_Ev X b L xs 1130 (al_L X b i) [] mem') : al_Ev X b L xs 812 (al_L X b i) [] mem := by
  refine al_aload dL_law_812 rfl ?_
  refine al_call (N := mX7_set) (k := 0) (st := []) [] dL_law_813 lkL_102 okX7_set sh_0 rfl rfl (Nat.le_of_ble_eq_true rfl) (ok_set mem hJ) (fun r m1 hq => ?_)
  obtain ⟨v, rfl, hs2⟩ := hq
  show al_Ev X b L xs 816 (al_L X b i) [.int v] m1
  refine al_aload dL_law_816 rfl ?_
  refine al_call (N := mX8_set) (k := 391) (st := [.int v]) [] dL_law_817 lkL_105 okX8_set sh_391 rfl rfl (Nat.le_of_ble_eq_true rfl) hs2 (fun r2 m2 hq2 => ?_)
  obtain ⟨rfl, hJ2⟩ := hq2
  show al_Ev X b L xs 820 (al_L X b i) [.int v, .int v] m2
  exact al_icmpeq (t := 1130) dL_law_820 (by decide) (fun _ => K m2 hJ2) (fun h => absurd rfl h)
theorem al_case_21 (hL : L ≤ 3072) (hJ : zJ mem) (hi : i + 6 ≤ L) (K : ∀ mem', zJ mem' → al_Ev X b L xs 1130 (al_L X b i) [] mem') : al_Ev X b L xs 825 (al_L X b i) [] mem := by
  refine al_aload dL_law_825 rfl ?_
  refine al_call (N := mX7_shown) (k := 0) (st := []) [] dL_law_826 lkL_106 okX7_shown sh_0 rfl rfl (Nat.le_of_ble_eq_true rfl) (ok_shown mem hJ) (fun r m1 hq => ?_)
  obtain ⟨v, rfl, hs2⟩ := hq
  show al_Ev X b L xs 829 (al_L X b i) [.int v] m1
  refine al_aload dL_law_829 rfl ?_
  refine al_call (N := mX8_shown) (k := 391) (st := [.int v]) [] dL_law_830 lkL_109 okX8_shown sh_391 rfl rfl (Nat.le_of_ble_eq_true rfl) hs2 (fun r2 m2 hq2 => ?_)
  obtain ⟨rfl, hJ2⟩ := hq2
  show al_Ev X b L xs 833 (al_L X b i) [.int v, .int v] m2
  exact al_icmpeq (t := 1130) dL_law_833 (by decide) (fun _ => K m2 hJ2) (fun h => absurd rfl h)
theorem al_case_22 (hL : L ≤ 3072) (hJ : zJ mem) (hi : i + 6 ≤ L) (K : ∀ mem', zJ mem' → al_Ev X b L xs 1130 (al_L X b i) [] mem') : al_Ev X b L xs 838 (al_L X b i) [] mem := by
  refine al_aload dL_law_838 rfl ?_
  refine al_aload dL_law_839 rfl ?_
  refine al_iload dL_law_840 rfl ?_
  refine al_iconst (v := 1) dL_law_841 (by decide) ?_
  refine al_iadd dL_law_842 ?_
  refine al_sld (i := i + 1) dL_law_843 (by omega) (by omega) (by rw [show (1 : Int32) = nI 1 from rfl, nI_add]) ?_
  refine al_call (N := mX7_pair) (k := 0) (st := []) [.inl (xs (i + 1))] dL_law_844 lkL_110 okX7_pair sh_0 rfl rfl (Nat.le_of_ble_eq_true rfl) (ok_pair mem hJ) (fun r m1 hq => ?_)
  obtain ⟨v, rfl, hs2⟩ := hq
  show al_Ev X b L xs 847 (al_L X b i) [.int v] m1
  refine al_aload dL_law_847 rfl ?_
  refine al_aload dL_law_848 rfl ?_
  refine al_iload dL_law_849 rfl ?_
  refine al_iconst (v := 1) dL_law_850 (by decide) ?_
  refine al_iadd dL_law_851 ?_
  refine al_sld (i := i + 1) dL_law_852 (by omega) (by omega) (by rw [show (1 : Int32) = nI 1 from rfl, nI_add]) ?_
  refine al_call (N := mX8_pair) (k := 391) (st := [.int v]) [.inl (xs (i + 1))] dL_law_853 lkL_113 okX8_pair sh_391 rfl rfl (Nat.le_of_ble_eq_true rfl) hs2 (fun r2 m2 hq2 => ?_)
  obtain ⟨rfl, hJ2⟩ := hq2
  show al_Ev X b L xs 856 (al_L X b i) [.int v, .int v] m2
  exact al_icmpeq (t := 1130) dL_law_856 (by decide) (fun _ => K m2 hJ2) (fun h => absurd rfl h)
theorem al_case_23 (hL : L ≤ 3072) (hJ : zJ mem) (hi : i + 6 ≤ L) (K : ∀ mem', zJ mem' → al_Ev X b L xs 1130 (al_L X b i) [] mem') : al_Ev X b L xs 861 (al_L X b i) [] mem := by
  refine al_aload dL_law_861 rfl ?_
  refine al_call (N := mX7_greedy) (k := 0) (st := []) [] dL_law_862 lkL_114 okX7_greedy sh_0 rfl rfl (Nat.le_of_ble_eq_true rfl) (ok_greedy mem hJ) (fun r m1 hq => ?_)
  obtain ⟨v, rfl, hs2⟩ := hq
  show al_Ev X b L xs 865 (al_L X b i) [.int v] m1
  refine al_aload dL_law_865 rfl ?_
  refine al_call (N := mX8_greedy) (k := 391) (st := [.int v]) [] dL_law_866 lkL_117 okX8_greedy sh_391 rfl rfl (Nat.le_of_ble_eq_true rfl) hs2 (fun r2 m2 hq2 => ?_)
  obtain ⟨rfl, hJ2⟩ := hq2
  show al_Ev X b L xs 869 (al_L X b i) [.int v, .int v] m2
  exact al_icmpeq (t := 1130) dL_law_869 (by decide) (fun _ => K m2 hJ2) (fun h => absurd rfl h)
theorem al_case_24 (hL : L ≤ 3072) (hJ : zJ mem) (hi : i + 6 ≤ L) (K : ∀ mem', zJ mem' → al_Ev X b L xs 1130 (al_L X b i) [] mem') : al_Ev X b L xs 874 (al_L X b i) [] mem := by
  refine al_aload dL_law_874 rfl ?_
  refine al_aload dL_law_875 rfl ?_
  refine al_iload dL_law_876 rfl ?_
  refine al_iconst (v := 1) dL_law_877 (by decide) ?_
  refine al_iadd dL_law_878 ?_
  refine al_sld (i := i + 1) dL_law_879 (by omega) (by omega) (by rw [show (1 : Int32) = nI 1 from rfl, nI_add]) ?_
  refine al_aload dL_law_880 rfl ?_
  refine al_iload dL_law_881 rfl ?_
  refine al_iconst (v := 2) dL_law_882 (by decide) ?_
  refine al_iadd dL_law_883 ?_
  refine al_sld (i := i + 2) dL_law_884 (by omega) (by omega) (by rw [show (2 : Int32) = nI 2 from rfl, nI_add]) ?_
  refine al_call (N := mX7_word) (k := 0) (st := []) [.inl (xs (i + 1)), .inl (xs (i + 2))] dL_law_885 lkL_118 okX7_word sh_0 rfl rfl (Nat.le_of_ble_eq_true rfl) (ok_word mem hJ) (fun r m1 hq => ?_)
  obtain ⟨v, rfl, hs2⟩ := hq
  show al_Ev X b L xs 888 (al_L X b i) [.int v] m1
  refine al_aload dL_law_888 rfl ?_
  refine al_aload dL_law_889 rfl ?_
  refine al_iload dL_law_890 rfl ?_
  refine al_iconst (v := 1) dL_law_891 (by decide) ?_
  refine al_iadd dL_law_892 ?_
  refine al_sld (i := i + 1) dL_law_893 (by omega) (by omega) (by rw [show (1 : Int32) = nI 1 from rfl, nI_add]) ?_
  refine al_aload dL_law_894 rfl ?_
  refine al_iload dL_law_895 rfl ?_
  refine al_iconst (v := 2) dL_law_896 (by decide) ?_
  refine al_iadd dL_law_897 ?_
  refine al_sld (i := i + 2) dL_law_898 (by omega) (by omega) (by rw [show (2 : Int32) = nI 2 from rfl, nI_add]) ?_
  refine al_call (N := mX8_word) (k := 391) (st := [.int v]) [.inl (xs (i + 1)), .inl (xs (i + 2))] dL_law_899 lkL_121 okX8_word sh_391 rfl rfl (Nat.le_of_ble_eq_true rfl) hs2 (fun r2 m2 hq2 => ?_)
  obtain ⟨rfl, hJ2⟩ := hq2
  show al_Ev X b L xs 902 (al_L X b i) [.int v, .int v] m2
  exact al_icmpeq (t := 1130) dL_law_902 (by decide) (fun _ => K m2 hJ2) (fun h => absurd rfl h)
theorem al_case_25 (hL : L ≤ 3072) (hJ : zJ mem) (hi : i + 6 ≤ L) (K : ∀ mem', zJ mem' → al_Ev X b L xs 1130 (al_L X b i) [] mem') : al_Ev X b L xs 907 (al_L X b i) [] mem := by
  refine al_aload dL_law_907 rfl ?_
  refine al_call (N := mX7_clear) (k := 0) (st := []) [] dL_law_908 lkL_122 okX7_clear sh_0 rfl rfl (Nat.le_of_ble_eq_true rfl) (ok_clear mem hJ) (fun r m1 hq => ?_)
  obtain ⟨v, rfl, hs2⟩ := hq
  show al_Ev X b L xs 911 (al_L X b i) [.int v] m1
  refine al_aload dL_law_911 rfl ?_
  refine al_call (N := mX8_clear) (k := 391) (st := [.int v]) [] dL_law_912 lkL_125 okX8_clear sh_391 rfl rfl (Nat.le_of_ble_eq_true rfl) hs2 (fun r2 m2 hq2 => ?_)
  obtain ⟨rfl, hJ2⟩ := hq2
  show al_Ev X b L xs 915 (al_L X b i) [.int v, .int v] m2
  exact al_icmpeq (t := 1130) dL_law_915 (by decide) (fun _ => K m2 hJ2) (fun h => absurd rfl h)
theorem al_case_26 (hL : L ≤ 3072) (hJ : zJ mem) (hi : i + 6 ≤ L) (K : ∀ mem', zJ mem' → al_Ev X b L xs 1130 (al_L X b i) [] mem') : al_Ev X b L xs 920 (al_L X b i) [] mem := by
  refine al_aload dL_law_920 rfl ?_
  refine al_call (N := mX7_fits) (k := 0) (st := []) [] dL_law_921 lkL_126 okX7_fits sh_0 rfl rfl (Nat.le_of_ble_eq_true rfl) (ok_fits mem hJ) (fun r m1 hq => ?_)
  obtain ⟨v, rfl, hs2⟩ := hq
  show al_Ev X b L xs 924 (al_L X b i) [.int v] m1
  refine al_aload dL_law_924 rfl ?_
  refine al_call (N := mX8_fits) (k := 391) (st := [.int v]) [] dL_law_925 lkL_129 okX8_fits sh_391 rfl rfl (Nat.le_of_ble_eq_true rfl) hs2 (fun r2 m2 hq2 => ?_)
  obtain ⟨rfl, hJ2⟩ := hq2
  show al_Ev X b L xs 928 (al_L X b i) [.int v, .int v] m2
  exact al_icmpeq (t := 1130) dL_law_928 (by decide) (fun _ => K m2 hJ2) (fun h => absurd rfl h)
theorem al_case_27 (hL : L ≤ 3072) (hJ : zJ mem) (hi : i + 6 ≤ L) (K : ∀ mem', zJ mem' → al_Ev X b L xs 1130 (al_L X b i) [] mem') : al_Ev X b L xs 933 (al_L X b i) [] mem := by
  refine al_aload dL_law_933 rfl ?_
  refine al_aload dL_law_934 rfl ?_
  refine al_iload dL_law_935 rfl ?_
  refine al_iconst (v := 1) dL_law_936 (by decide) ?_
  refine al_iadd dL_law_937 ?_
  refine al_sld (i := i + 1) dL_law_938 (by omega) (by omega) (by rw [show (1 : Int32) = nI 1 from rfl, nI_add]) ?_
  refine al_call (N := mX7_where) (k := 0) (st := []) [.inl (xs (i + 1))] dL_law_939 lkL_130 okX7_where sh_0 rfl rfl (Nat.le_of_ble_eq_true rfl) (ok_where mem hJ) (fun r m1 hq => ?_)
  obtain ⟨v, rfl, hs2⟩ := hq
  show al_Ev X b L xs 942 (al_L X b i) [.int v] m1
  refine al_aload dL_law_942 rfl ?_
  refine al_aload dL_law_943 rfl ?_
  refine al_iload dL_law_944 rfl ?_
  refine al_iconst (v := 1) dL_law_945 (by decide) ?_
  refine al_iadd dL_law_946 ?_
  refine al_sld (i := i + 1) dL_law_947 (by omega) (by omega) (by rw [show (1 : Int32) = nI 1 from rfl, nI_add]) ?_
  refine al_call (N := mX8_where) (k := 391) (st := [.int v]) [.inl (xs (i + 1))] dL_law_948 lkL_133 okX8_where sh_391 rfl rfl (Nat.le_of_ble_eq_true rfl) hs2 (fun r2 m2 hq2 => ?_)
  obtain ⟨rfl, hJ2⟩ := hq2
  show al_Ev X b L xs 951 (al_L X b i) [.int v, .int v] m2
  exact al_icmpeq (t := 1130) dL_law_951 (by decide) (fun _ => K m2 hJ2) (fun h => absurd rfl h)
theorem al_case_28 (hL : L ≤ 3072) (hJ : zJ mem) (hi : i + 6 ≤ L) (K : ∀ mem', zJ mem' → al_Ev X b L xs 1130 (al_L X b i) [] mem') : al_Ev X b L xs 956 (al_L X b i) [] mem := by
  refine al_aload dL_law_956 rfl ?_
  refine al_aload dL_law_957 rfl ?_
  refine al_iload dL_law_958 rfl ?_
  refine al_iconst (v := 1) dL_law_959 (by decide) ?_
  refine al_iadd dL_law_960 ?_
  refine al_sld (i := i + 1) dL_law_961 (by omega) (by omega) (by rw [show (1 : Int32) = nI 1 from rfl, nI_add]) ?_
  refine al_call (N := mX7_against) (k := 0) (st := []) [.inl (xs (i + 1))] dL_law_962 lkL_134 okX7_against sh_0 rfl rfl (Nat.le_of_ble_eq_true rfl) (ok_against mem hJ) (fun r m1 hq => ?_)
  obtain ⟨v, rfl, hs2⟩ := hq
  show al_Ev X b L xs 965 (al_L X b i) [.int v] m1
  refine al_aload dL_law_965 rfl ?_
  refine al_aload dL_law_966 rfl ?_
  refine al_iload dL_law_967 rfl ?_
  refine al_iconst (v := 1) dL_law_968 (by decide) ?_
  refine al_iadd dL_law_969 ?_
  refine al_sld (i := i + 1) dL_law_970 (by omega) (by omega) (by rw [show (1 : Int32) = nI 1 from rfl, nI_add]) ?_
  refine al_call (N := mX8_against) (k := 391) (st := [.int v]) [.inl (xs (i + 1))] dL_law_971 lkL_137 okX8_against sh_391 rfl rfl (Nat.le_of_ble_eq_true rfl) hs2 (fun r2 m2 hq2 => ?_)
  obtain ⟨rfl, hJ2⟩ := hq2
  show al_Ev X b L xs 974 (al_L X b i) [.int v, .int v] m2
  exact al_icmpeq (t := 1130) dL_law_974 (by decide) (fun _ => K m2 hJ2) (fun h => absurd rfl h)
theorem al_case_29 (hL : L ≤ 3072) (hJ : zJ mem) (hi : i + 6 ≤ L) (K : ∀ mem', zJ mem' → al_Ev X b L xs 1130 (al_L X b i) [] mem') : al_Ev X b L xs 979 (al_L X b i) [] mem := by
  refine al_aload dL_law_979 rfl ?_
  refine al_aload dL_law_980 rfl ?_
  refine al_iload dL_law_981 rfl ?_
  refine al_iconst (v := 1) dL_law_982 (by decide) ?_
  refine al_iadd dL_law_983 ?_
  refine al_sld (i := i + 1) dL_law_984 (by omega) (by omega) (by rw [show (1 : Int32) = nI 1 from rfl, nI_add]) ?_
  refine al_call (N := mX7_worst) (k := 0) (st := []) [.inl (xs (i + 1))] dL_law_985 lkL_138 okX7_worst sh_0 rfl rfl (Nat.le_of_ble_eq_true rfl) (ok_worst mem hJ) (fun r m1 hq => ?_)
  obtain ⟨v, rfl, hs2⟩ := hq
  show al_Ev X b L xs 988 (al_L X b i) [.int v] m1
  refine al_aload dL_law_988 rfl ?_
  refine al_aload dL_law_989 rfl ?_
  refine al_iload dL_law_990 rfl ?_
  refine al_iconst (v := 1) dL_law_991 (by decide) ?_
  refine al_iadd dL_law_992 ?_
  refine al_sld (i := i + 1) dL_law_993 (by omega) (by omega) (by rw [show (1 : Int32) = nI 1 from rfl, nI_add]) ?_
  refine al_call (N := mX8_worst) (k := 391) (st := [.int v]) [.inl (xs (i + 1))] dL_law_994 lkL_141 okX8_worst sh_391 rfl rfl (Nat.le_of_ble_eq_true rfl) hs2 (fun r2 m2 hq2 => ?_)
  obtain ⟨rfl, hJ2⟩ := hq2
  show al_Ev X b L xs 997 (al_L X b i) [.int v, .int v] m2
  exact al_icmpeq (t := 1130) dL_law_997 (by decide) (fun _ => K m2 hJ2) (fun h => absurd rfl h)
theorem al_case_30 (hL : L ≤ 3072) (hJ : zJ mem) (hi : i + 6 ≤ L) (K : ∀ mem', zJ mem' → al_Ev X b L xs 1130 (al_L X b i) [] mem') : al_Ev X b L xs 1002 (al_L X b i) [] mem := by
  refine al_aload dL_law_1002 rfl ?_
  refine al_aload dL_law_1003 rfl ?_
  refine al_iload dL_law_1004 rfl ?_
  refine al_iconst (v := 1) dL_law_1005 (by decide) ?_
  refine al_iadd dL_law_1006 ?_
  refine al_sld (i := i + 1) dL_law_1007 (by omega) (by omega) (by rw [show (1 : Int32) = nI 1 from rfl, nI_add]) ?_
  refine al_call (N := mX7_next) (k := 0) (st := []) [.inl (xs (i + 1))] dL_law_1008 lkL_142 okX7_next sh_0 rfl rfl (Nat.le_of_ble_eq_true rfl) (ok_next mem hJ) (fun r m1 hq => ?_)
  obtain ⟨v, rfl, hs2⟩ := hq
  show al_Ev X b L xs 1011 (al_L X b i) [.int v] m1
  refine al_aload dL_law_1011 rfl ?_
  refine al_aload dL_law_1012 rfl ?_
  refine al_iload dL_law_1013 rfl ?_
  refine al_iconst (v := 1) dL_law_1014 (by decide) ?_
  refine al_iadd dL_law_1015 ?_
  refine al_sld (i := i + 1) dL_law_1016 (by omega) (by omega) (by rw [show (1 : Int32) = nI 1 from rfl, nI_add]) ?_
  refine al_call (N := mX8_next) (k := 391) (st := [.int v]) [.inl (xs (i + 1))] dL_law_1017 lkL_145 okX8_next sh_391 rfl rfl (Nat.le_of_ble_eq_true rfl) hs2 (fun r2 m2 hq2 => ?_)
  obtain ⟨rfl, hJ2⟩ := hq2
  show al_Ev X b L xs 1020 (al_L X b i) [.int v, .int v] m2
  exact al_icmpeq (t := 1130) dL_law_1020 (by decide) (fun _ => K m2 hJ2) (fun h => absurd rfl h)
theorem al_case_31 (hL : L ≤ 3072) (hJ : zJ mem) (hi : i + 6 ≤ L) (K : ∀ mem', zJ mem' → al_Ev X b L xs 1130 (al_L X b i) [] mem') : al_Ev X b L xs 1025 (al_L X b i) [] mem := by
  refine al_aload dL_law_1025 rfl ?_
  refine al_aload dL_law_1026 rfl ?_
  refine al_iload dL_law_1027 rfl ?_
  refine al_iconst (v := 1) dL_law_1028 (by decide) ?_
  refine al_iadd dL_law_1029 ?_
  refine al_sld (i := i + 1) dL_law_1030 (by omega) (by omega) (by rw [show (1 : Int32) = nI 1 from rfl, nI_add]) ?_
  refine al_call (N := mX7_mean) (k := 0) (st := []) [.inl (xs (i + 1))] dL_law_1031 lkL_146 okX7_mean sh_0 rfl rfl (Nat.le_of_ble_eq_true rfl) (ok_mean mem hJ) (fun r m1 hq => ?_)
  obtain ⟨v, rfl, hs2⟩ := hq
  show al_Ev X b L xs 1034 (al_L X b i) [.int v] m1
  refine al_aload dL_law_1034 rfl ?_
  refine al_aload dL_law_1035 rfl ?_
  refine al_iload dL_law_1036 rfl ?_
  refine al_iconst (v := 1) dL_law_1037 (by decide) ?_
  refine al_iadd dL_law_1038 ?_
  refine al_sld (i := i + 1) dL_law_1039 (by omega) (by omega) (by rw [show (1 : Int32) = nI 1 from rfl, nI_add]) ?_
  refine al_call (N := mX8_mean) (k := 391) (st := [.int v]) [.inl (xs (i + 1))] dL_law_1040 lkL_149 okX8_mean sh_391 rfl rfl (Nat.le_of_ble_eq_true rfl) hs2 (fun r2 m2 hq2 => ?_)
  obtain ⟨rfl, hJ2⟩ := hq2
  show al_Ev X b L xs 1043 (al_L X b i) [.int v, .int v] m2
  exact al_icmpeq (t := 1130) dL_law_1043 (by decide) (fun _ => K m2 hJ2) (fun h => absurd rfl h)
theorem al_case_32 (hL : L ≤ 3072) (hJ : zJ mem) (hi : i + 6 ≤ L) (K : ∀ mem', zJ mem' → al_Ev X b L xs 1130 (al_L X b i) [] mem') : al_Ev X b L xs 1048 (al_L X b i) [] mem := by
  refine al_aload dL_law_1048 rfl ?_
  refine al_aload dL_law_1049 rfl ?_
  refine al_iload dL_law_1050 rfl ?_
  refine al_iconst (v := 1) dL_law_1051 (by decide) ?_
  refine al_iadd dL_law_1052 ?_
  refine al_sld (i := i + 1) dL_law_1053 (by omega) (by omega) (by rw [show (1 : Int32) = nI 1 from rfl, nI_add]) ?_
  refine al_call (N := mX7_seek) (k := 0) (st := []) [.inl (xs (i + 1))] dL_law_1054 lkL_150 okX7_seek sh_0 rfl rfl (Nat.le_of_ble_eq_true rfl) (ok_seek mem hJ) (fun r m1 hq => ?_)
  obtain ⟨v, rfl, hs2⟩ := hq
  show al_Ev X b L xs 1057 (al_L X b i) [.int v] m1
  refine al_aload dL_law_1057 rfl ?_
  refine al_aload dL_law_1058 rfl ?_
  refine al_iload dL_law_1059 rfl ?_
  refine al_iconst (v := 1) dL_law_1060 (by decide) ?_
  refine al_iadd dL_law_1061 ?_
  refine al_sld (i := i + 1) dL_law_1062 (by omega) (by omega) (by rw [show (1 : Int32) = nI 1 from rfl, nI_add]) ?_
  refine al_call (N := mX8_seek) (k := 391) (st := [.int v]) [.inl (xs (i + 1))] dL_law_1063 lkL_153 okX8_seek sh_391 rfl rfl (Nat.le_of_ble_eq_true rfl) hs2 (fun r2 m2 hq2 => ?_)
  obtain ⟨rfl, hJ2⟩ := hq2
  show al_Ev X b L xs 1066 (al_L X b i) [.int v, .int v] m2
  exact al_icmpeq (t := 1130) dL_law_1066 (by decide) (fun _ => K m2 hJ2) (fun h => absurd rfl h)
theorem al_case_33 (hL : L ≤ 3072) (hJ : zJ mem) (hi : i + 6 ≤ L) (K : ∀ mem', zJ mem' → al_Ev X b L xs 1130 (al_L X b i) [] mem') : al_Ev X b L xs 1071 (al_L X b i) [] mem := by
  refine al_aload dL_law_1071 rfl ?_
  refine al_call (N := mX7_tree) (k := 0) (st := []) [] dL_law_1072 lkL_154 okX7_tree sh_0 rfl rfl (Nat.le_of_ble_eq_true rfl) (ok_tree mem hJ) (fun r m1 hq => ?_)
  obtain ⟨v, rfl, hs2⟩ := hq
  show al_Ev X b L xs 1075 (al_L X b i) [.int v] m1
  refine al_aload dL_law_1075 rfl ?_
  refine al_call (N := mX8_tree) (k := 391) (st := [.int v]) [] dL_law_1076 lkL_157 okX8_tree sh_391 rfl rfl (Nat.le_of_ble_eq_true rfl) hs2 (fun r2 m2 hq2 => ?_)
  obtain ⟨rfl, hJ2⟩ := hq2
  show al_Ev X b L xs 1079 (al_L X b i) [.int v, .int v] m2
  exact al_icmpeq (t := 1130) dL_law_1079 (by decide) (fun _ => K m2 hJ2) (fun h => absurd rfl h)
theorem al_case_34 (hL : L ≤ 3072) (hJ : zJ mem) (hi : i + 6 ≤ L) (K : ∀ mem', zJ mem' → al_Ev X b L xs 1130 (al_L X b i) [] mem') : al_Ev X b L xs 1084 (al_L X b i) [] mem := by
  refine al_aload dL_law_1084 rfl ?_
  refine al_aload dL_law_1085 rfl ?_
  refine al_iload dL_law_1086 rfl ?_
  refine al_iconst (v := 1) dL_law_1087 (by decide) ?_
  refine al_iadd dL_law_1088 ?_
  refine al_sld (i := i + 1) dL_law_1089 (by omega) (by omega) (by rw [show (1 : Int32) = nI 1 from rfl, nI_add]) ?_
  refine al_call (N := mX7_undo) (k := 0) (st := []) [.inl (xs (i + 1))] dL_law_1090 lkL_158 okX7_undo sh_0 rfl rfl (Nat.le_of_ble_eq_true rfl) (ok_undo mem hJ) (fun r m1 hq => ?_)
  obtain ⟨v, rfl, hs2⟩ := hq
  show al_Ev X b L xs 1093 (al_L X b i) [.int v] m1
  refine al_aload dL_law_1093 rfl ?_
  refine al_aload dL_law_1094 rfl ?_
  refine al_iload dL_law_1095 rfl ?_
  refine al_iconst (v := 1) dL_law_1096 (by decide) ?_
  refine al_iadd dL_law_1097 ?_
  refine al_sld (i := i + 1) dL_law_1098 (by omega) (by omega) (by rw [show (1 : Int32) = nI 1 from rfl, nI_add]) ?_
  refine al_call (N := mX8_undo) (k := 391) (st := [.int v]) [.inl (xs (i + 1))] dL_law_1099 lkL_161 okX8_undo sh_391 rfl rfl (Nat.le_of_ble_eq_true rfl) hs2 (fun r2 m2 hq2 => ?_)
  obtain ⟨rfl, hJ2⟩ := hq2
  show al_Ev X b L xs 1102 (al_L X b i) [.int v, .int v] m2
  exact al_icmpeq (t := 1130) dL_law_1102 (by decide) (fun _ => K m2 hJ2) (fun h => absurd rfl h)
theorem al_case_35 (hL : L ≤ 3072) (hJ : zJ mem) (hi : i + 6 ≤ L) (K : ∀ mem', zJ mem' → al_Ev X b L xs 1130 (al_L X b i) [] mem') : al_Ev X b L xs 1107 (al_L X b i) [] mem := by
  refine al_aload dL_law_1107 rfl ?_
  refine al_aload dL_law_1108 rfl ?_
  refine al_iload dL_law_1109 rfl ?_
  refine al_iconst (v := 1) dL_law_1110 (by decide) ?_
  refine al_iadd dL_law_1111 ?_
  refine al_sld (i := i + 1) dL_law_1112 (by omega) (by omega) (by rw [show (1 : Int32) = nI 1 from rfl, nI_add]) ?_
  refine al_call (N := mX7_about) (k := 0) (st := []) [.inl (xs (i + 1))] dL_law_1113 lkL_162 okX7_about sh_0 rfl rfl (Nat.le_of_ble_eq_true rfl) (ok_about mem hJ) (fun r m1 hq => ?_)
  obtain ⟨v, rfl, hs2⟩ := hq
  show al_Ev X b L xs 1116 (al_L X b i) [.int v] m1
  refine al_aload dL_law_1116 rfl ?_
  refine al_aload dL_law_1117 rfl ?_
  refine al_iload dL_law_1118 rfl ?_
  refine al_iconst (v := 1) dL_law_1119 (by decide) ?_
  refine al_iadd dL_law_1120 ?_
  refine al_sld (i := i + 1) dL_law_1121 (by omega) (by omega) (by rw [show (1 : Int32) = nI 1 from rfl, nI_add]) ?_
  refine al_call (N := mX8_about) (k := 391) (st := [.int v]) [.inl (xs (i + 1))] dL_law_1122 lkL_165 okX8_about sh_391 rfl rfl (Nat.le_of_ble_eq_true rfl) hs2 (fun r2 m2 hq2 => ?_)
  obtain ⟨rfl, hJ2⟩ := hq2
  show al_Ev X b L xs 1125 (al_L X b i) [.int v, .int v] m2
  exact al_icmpeq (t := 1130) dL_law_1125 (by decide) (fun _ => K m2 hJ2) (fun h => absurd rfl h)
theorem al_cmp {L i : Nat} (hL : L ≤ 3072) (hi : i ≤ 4000) : nI L - 6 < nI i ↔ L < i + 6 := by
  rw [show (6 : Int32) = nI 6 from rfl, fa_lt, fb_subI, nI_toInt (by omega), nI_toInt (by omega), nI_toInt (by omega)]
  · omega
  · rw [nI_toInt (by omega), nI_toInt (by omega)]; omega
  · rw [nI_toInt (by omega), nI_toInt (by omega)]; omega
theorem al_loop (hL : L ≤ 3072) : ∀ (n i : Nat), L ≤ i + n → i ≤ L + 6 → ∀ mem, zJ mem → al_Ev X b L xs 18 (al_L X b i) [] mem := by
  intro n
  induction n using Nat.strongRecOn with
  | ind n ih =>
    intro i hn hi6 mem hJ
    refine al_iload dL_law_18 rfl ?_
    refine al_aload dL_law_19 rfl ?_
    refine al_slen dL_law_20 ?_
    refine al_bipush (v := 6) dL_law_21 (by decide) ?_
    refine al_isub dL_law_23 ?_
    refine al_icmpgt (t := 1136) dL_law_24 (by decide) (fun _ => ?_) (fun hc => ?_)
    · refine al_iconst (v := 1) dL_law_1136 (by decide) ?_
      exact al_ret dL_law_1137
    have hi : i + 6 ≤ L := by
      rw [al_cmp hL (by omega)] at hc
      omega
    have K : ∀ mem', zJ mem' → al_Ev X b L xs 1130 (al_L X b i) [] mem' := by
      intro mem' hJ'
      refine al_iinc (w := 6) dL_law_1130 rfl (by decide) (by decide) (ay_c1r (ay_c1r (ay_c1r (ay_c1i ay_c1e)))) ?_
      refine al_goto (t := 18) dL_law_1133 (by decide) ?_
      show al_Ev X b L xs 18 [some (.ref b), some (.ref (X.2.2.2 0)), some (.ref (X.2.2.2 391)), some (.int (nI i + 6))] [] mem'
      rw [show (6 : Int32) = nI 6 from rfl, nI_add]
      exact ih (n - 6) (by omega) (i + 6) (by omega) (by omega) mem' hJ'
    refine al_aload dL_law_27 rfl ?_
    refine al_iload dL_law_28 rfl ?_
    refine al_sld (i := i) dL_law_29 (by omega) (by omega) rfl ?_
    refine al_bipush (v := 63) dL_law_30 (by decide) ?_
    refine al_iand dL_law_32 ?_
    generalize xs i &&& 63 = y
    by_cases h0 : y = 0
    · refine al_tin (off := 159) (t := 192) dL_law_33 (by rw [h0]; decide) (by rw [h0]; decide) (by rw [h0]; decide) (by decide) ?_
      exact al_case_0 hL hJ hi K
    by_cases h1 : y = 1
    · refine al_tin (off := 172) (t := 205) dL_law_33 (by rw [h1]; decide) (by rw [h1]; decide) (by rw [h1]; decide) (by decide) ?_
      exact al_case_1 hL hJ hi K
    by_cases h2 : y = 2
    · refine al_tin (off := 215) (t := 248) dL_law_33 (by rw [h2]; decide) (by rw [h2]; decide) (by rw [h2]; decide) (by decide) ?_
      exact al_case_2 hL hJ hi K
    by_cases h3 : y = 3
    · refine al_tin (off := 248) (t := 281) dL_law_33 (by rw [h3]; decide) (by rw [h3]; decide) (by rw [h3]; decide) (by decide) ?_
      exact al_case_3 hL hJ hi K
    by_cases h4 : y = 4
    · refine al_tin (off := 311) (t := 344) dL_law_33 (by rw [h4]; decide) (by rw [h4]; decide) (by rw [h4]; decide) (by decide) ?_
      exact al_case_4 hL hJ hi K
    by_cases h5 : y = 5
    · refine al_tin (off := 334) (t := 367) dL_law_33 (by rw [h5]; decide) (by rw [h5]; decide) (by rw [h5]; decide) (by decide) ?_
      exact al_case_5 hL hJ hi K
    by_cases h6 : y = 6
    · refine al_tin (off := 367) (t := 400) dL_law_33 (by rw [h6]; decide) (by rw [h6]; decide) (by rw [h6]; decide) (by decide) ?_
      exact al_case_6 hL hJ hi K
    by_cases h7 : y = 7
    · refine al_tin (off := 400) (t := 433) dL_law_33 (by rw [h7]; decide) (by rw [h7]; decide) (by rw [h7]; decide) (by decide) ?_
      exact al_case_7 hL hJ hi K
    by_cases h8 : y = 8
    · refine al_tin (off := 433) (t := 466) dL_law_33 (by rw [h8]; decide) (by rw [h8]; decide) (by rw [h8]; decide) (by decide) ?_
      exact al_case_8 hL hJ hi K
    by_cases h9 : y = 9
    · refine al_tin (off := 466) (t := 499) dL_law_33 (by rw [h9]; decide) (by rw [h9]; decide) (by rw [h9]; decide) (by decide) ?_
      exact al_case_9 hL hJ hi K
    by_cases h10 : y = 10
    · refine al_tin (off := 515) (t := 548) dL_law_33 (by rw [h10]; decide) (by rw [h10]; decide) (by rw [h10]; decide) (by decide) ?_
      exact al_case_10 hL hJ hi K
    by_cases h11 : y = 11
    · refine al_tin (off := 552) (t := 585) dL_law_33 (by rw [h11]; decide) (by rw [h11]; decide) (by rw [h11]; decide) (by decide) ?_
      exact al_case_11 hL hJ hi K
    by_cases h12 : y = 12
    · refine al_tin (off := 585) (t := 618) dL_law_33 (by rw [h12]; decide) (by rw [h12]; decide) (by rw [h12]; decide) (by decide) ?_
      exact al_case_12 hL hJ hi K
    by_cases h13 : y = 13
    · refine al_tin (off := 618) (t := 651) dL_law_33 (by rw [h13]; decide) (by rw [h13]; decide) (by rw [h13]; decide) (by decide) ?_
      exact al_case_13 hL hJ hi K
    by_cases h14 : y = 14
    · refine al_tin (off := 651) (t := 684) dL_law_33 (by rw [h14]; decide) (by rw [h14]; decide) (by rw [h14]; decide) (by decide) ?_
      exact al_case_14 hL hJ hi K
    by_cases h15 : y = 15
    · refine al_tin (off := 694) (t := 727) dL_law_33 (by rw [h15]; decide) (by rw [h15]; decide) (by rw [h15]; decide) (by decide) ?_
      exact al_case_15 hL hJ hi K
    by_cases h16 : y = 16
    · refine al_tin (off := 717) (t := 750) dL_law_33 (by rw [h16]; decide) (by rw [h16]; decide) (by rw [h16]; decide) (by decide) ?_
      exact al_case_16 hL hJ hi K
    by_cases h17 : y = 17
    · refine al_tin (off := 740) (t := 773) dL_law_33 (by rw [h17]; decide) (by rw [h17]; decide) (by rw [h17]; decide) (by decide) ?_
      exact al_case_17 hL hJ hi K
    by_cases h18 : y = 18
    · refine al_tin (off := 753) (t := 786) dL_law_33 (by rw [h18]; decide) (by rw [h18]; decide) (by rw [h18]; decide) (by decide) ?_
      exact al_case_18 hL hJ hi K
    by_cases h19 : y = 19
    · refine al_tin (off := 766) (t := 799) dL_law_33 (by rw [h19]; decide) (by rw [h19]; decide) (by rw [h19]; decide) (by decide) ?_
      exact al_case_19 hL hJ hi K
    by_cases h20 : y = 20
    · refine al_tin (off := 779) (t := 812) dL_law_33 (by rw [h20]; decide) (by rw [h20]; decide) (by rw [h20]; decide) (by decide) ?_
      exact al_case_20 hL hJ hi K
    by_cases h21 : y = 21
    · refine al_tin (off := 792) (t := 825) dL_law_33 (by rw [h21]; decide) (by rw [h21]; decide) (by rw [h21]; decide) (by decide) ?_
      exact al_case_21 hL hJ hi K
    by_cases h22 : y = 22
    · refine al_tin (off := 805) (t := 838) dL_law_33 (by rw [h22]; decide) (by rw [h22]; decide) (by rw [h22]; decide) (by decide) ?_
      exact al_case_22 hL hJ hi K
    by_cases h23 : y = 23
    · refine al_tin (off := 828) (t := 861) dL_law_33 (by rw [h23]; decide) (by rw [h23]; decide) (by rw [h23]; decide) (by decide) ?_
      exact al_case_23 hL hJ hi K
    by_cases h24 : y = 24
    · refine al_tin (off := 841) (t := 874) dL_law_33 (by rw [h24]; decide) (by rw [h24]; decide) (by rw [h24]; decide) (by decide) ?_
      exact al_case_24 hL hJ hi K
    by_cases h25 : y = 25
    · refine al_tin (off := 874) (t := 907) dL_law_33 (by rw [h25]; decide) (by rw [h25]; decide) (by rw [h25]; decide) (by decide) ?_
      exact al_case_25 hL hJ hi K
    by_cases h26 : y = 26
    · refine al_tin (off := 887) (t := 920) dL_law_33 (by rw [h26]; decide) (by rw [h26]; decide) (by rw [h26]; decide) (by decide) ?_
      exact al_case_26 hL hJ hi K
    by_cases h27 : y = 27
    · refine al_tin (off := 900) (t := 933) dL_law_33 (by rw [h27]; decide) (by rw [h27]; decide) (by rw [h27]; decide) (by decide) ?_
      exact al_case_27 hL hJ hi K
    by_cases h28 : y = 28
    · refine al_tin (off := 923) (t := 956) dL_law_33 (by rw [h28]; decide) (by rw [h28]; decide) (by rw [h28]; decide) (by decide) ?_
      exact al_case_28 hL hJ hi K
    by_cases h29 : y = 29
    · refine al_tin (off := 946) (t := 979) dL_law_33 (by rw [h29]; decide) (by rw [h29]; decide) (by rw [h29]; decide) (by decide) ?_
      exact al_case_29 hL hJ hi K
    by_cases h30 : y = 30
    · refine al_tin (off := 969) (t := 1002) dL_law_33 (by rw [h30]; decide) (by rw [h30]; decide) (by rw [h30]; decide) (by decide) ?_
      exact al_case_30 hL hJ hi K
    by_cases h31 : y = 31
    · refine al_tin (off := 992) (t := 1025) dL_law_33 (by rw [h31]; decide) (by rw [h31]; decide) (by rw [h31]; decide) (by decide) ?_
      exact al_case_31 hL hJ hi K
    by_cases h32 : y = 32
    · refine al_tin (off := 1015) (t := 1048) dL_law_33 (by rw [h32]; decide) (by rw [h32]; decide) (by rw [h32]; decide) (by decide) ?_
      exact al_case_32 hL hJ hi K
    by_cases h33 : y = 33
    · refine al_tin (off := 1038) (t := 1071) dL_law_33 (by rw [h33]; decide) (by rw [h33]; decide) (by rw [h33]; decide) (by decide) ?_
      exact al_case_33 hL hJ hi K
    by_cases h34 : y = 34
    · refine al_tin (off := 1051) (t := 1084) dL_law_33 (by rw [h34]; decide) (by rw [h34]; decide) (by rw [h34]; decide) (by decide) ?_
      exact al_case_34 hL hJ hi K
    by_cases h35 : y = 35
    · refine al_tin (off := 1074) (t := 1107) dL_law_33 (by rw [h35]; decide) (by rw [h35]; decide) (by rw [h35]; decide) (by decide) ?_
      exact al_case_35 hL hJ hi K
    refine al_tout (t := 1130) dL_law_33 (by have g0 := zi_ne (k := 0) (by decide) h0; have g1 := zi_ne (k := 1) (by decide) h1; have g2 := zi_ne (k := 2) (by decide) h2; have g3 := zi_ne (k := 3) (by decide) h3; have g4 := zi_ne (k := 4) (by decide) h4; have g5 := zi_ne (k := 5) (by decide) h5; have g6 := zi_ne (k := 6) (by decide) h6; have g7 := zi_ne (k := 7) (by decide) h7; have g8 := zi_ne (k := 8) (by decide) h8; have g9 := zi_ne (k := 9) (by decide) h9; have g10 := zi_ne (k := 10) (by decide) h10; have g11 := zi_ne (k := 11) (by decide) h11; have g12 := zi_ne (k := 12) (by decide) h12; have g13 := zi_ne (k := 13) (by decide) h13; have g14 := zi_ne (k := 14) (by decide) h14; have g15 := zi_ne (k := 15) (by decide) h15; have g16 := zi_ne (k := 16) (by decide) h16; have g17 := zi_ne (k := 17) (by decide) h17; have g18 := zi_ne (k := 18) (by decide) h18; have g19 := zi_ne (k := 19) (by decide) h19; have g20 := zi_ne (k := 20) (by decide) h20; have g21 := zi_ne (k := 21) (by decide) h21; have g22 := zi_ne (k := 22) (by decide) h22; have g23 := zi_ne (k := 23) (by decide) h23; have g24 := zi_ne (k := 24) (by decide) h24; have g25 := zi_ne (k := 25) (by decide) h25; have g26 := zi_ne (k := 26) (by decide) h26; have g27 := zi_ne (k := 27) (by decide) h27; have g28 := zi_ne (k := 28) (by decide) h28; have g29 := zi_ne (k := 29) (by decide) h29; have g30 := zi_ne (k := 30) (by decide) h30; have g31 := zi_ne (k := 31) (by decide) h31; have g32 := zi_ne (k := 32) (by decide) h32; have g33 := zi_ne (k := 33) (by decide) h33; have g34 := zi_ne (k := 34) (by decide) h34; have g35 := zi_ne (k := 35) (by decide) h35; omega) (by decide) ?_
    exact K mem hJ
end AL2

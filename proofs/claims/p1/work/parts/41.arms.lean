/-! THE LAW: its arms -/
def R_law : String := "RollingNetsLaw"
def LC (g : GE) (b : Nat) : LO := [some (.ref b), some (rf g 0), some (rf g 551), some (.int (nI 0))]
abbrev LRw (g : GE) (b : Nat) (xs : Nat → Int32) (Q : Option Value → Iv → Lv → Prop) (Z : ZT) : Prop := Rw g R_law code 4 (some .boolean) room_1 (some (b, 6, xs)) Q Z
theorem lg_self (x : Int64) : lg_cmp x x = 0 := by unfold lg_cmp; simp [Int64.lt_irrefl]
theorem la_0 {g : GE} {b : Nat} {xs : Nat → Int32} {Q : Option Value → Iv → Lv → Prop} {Z : ZT} (zh : LRw g b xs Q Z) (kk : ∀ iv lv, Z 1483 (LC g b) [] iv lv) : Z 188 (LC g b) [] iv0 lv0 := by
  refine z_aloadnR zh dL_law_188 rfl ?_
  refine z_aloadn zh dL_law_189 rfl ?_
  refine z_iloadn zh dL_law_190 rfl ?_
  refine z_iconst zh dL_law_191 ki_1 ?_
  refine z_iaddN zh dL_law_192 ?_
  refine z_sld (j := 1) zh rfl dL_law_193 (by decide) (by decide) ?_
  refine z_aloadn zh dL_law_194 rfl ?_
  refine z_iloadn zh dL_law_195 rfl ?_
  refine z_iconst zh dL_law_196 ki_2 ?_
  refine z_iaddN zh dL_law_197 ?_
  refine z_sld (j := 2) zh rfl dL_law_198 (by decide) (by decide) ?_
  refine z_callVI (As := [.int (xs 1), .int (xs 2)]) zh mv_Law_13 dL_law_199 ck_X rfl (c_X_set g (x := xs 1) (v := xs 2) (dd := fun _ => 0) o0) ⟨(Nat.le_of_ble_eq_true rfl), (Nat.le_of_ble_eq_true rfl)⟩ rfl rfl (Nat.le_of_ble_eq_true rfl) ?_
  rintro _ iv1 lv1 ⟨rfl, hR1⟩
  refine z_aloadnR zh dL_law_202 rfl ?_
  refine z_aloadn zh dL_law_203 rfl ?_
  refine z_iloadn zh dL_law_204 rfl ?_
  refine z_iconst zh dL_law_205 ki_1 ?_
  refine z_iaddN zh dL_law_206 ?_
  refine z_sld (j := 1) zh rfl dL_law_207 (by decide) (by decide) ?_
  refine z_aloadn zh dL_law_208 rfl ?_
  refine z_iloadn zh dL_law_209 rfl ?_
  refine z_iconst zh dL_law_210 ki_2 ?_
  refine z_iaddN zh dL_law_211 ?_
  refine z_sld (j := 2) zh rfl dL_law_212 (by decide) (by decide) ?_
  refine z_callVI (As := [.int (xs 1), .int (xs 2)]) zh mv_Law_17 dL_law_213 ck_Y rfl (c_Y_set g (x := xs 1) (v := xs 2) (dm := 0) hR1) ⟨(Nat.le_of_ble_eq_true rfl), (Nat.le_of_ble_eq_true rfl)⟩ rfl rfl (Nat.le_of_ble_eq_true rfl) ?_
  rintro _ iv2 lv2 rfl
  refine z_icmp_eq (tgt := 1483) zh dL_law_216 rfl (fun _ => ?_) (fun q => absurd rfl q)
  exact kk _ _
theorem la_1 {g : GE} {b : Nat} {xs : Nat → Int32} {Q : Option Value → Iv → Lv → Prop} {Z : ZT} (zh : LRw g b xs Q Z) (kk : ∀ iv lv, Z 1483 (LC g b) [] iv lv) : Z 221 (LC g b) [] iv0 lv0 := by
  refine z_aloadnR zh dL_law_221 rfl ?_
  refine z_aloadn zh dL_law_222 rfl ?_
  refine z_iloadn zh dL_law_223 rfl ?_
  refine z_iconst zh dL_law_224 ki_1 ?_
  refine z_iaddN zh dL_law_225 ?_
  refine z_sld (j := 1) zh rfl dL_law_226 (by decide) (by decide) ?_
  refine z_aloadn zh dL_law_227 rfl ?_
  refine z_iloadn zh dL_law_228 rfl ?_
  refine z_iconst zh dL_law_229 ki_2 ?_
  refine z_iaddN zh dL_law_230 ?_
  refine z_sld (j := 2) zh rfl dL_law_231 (by decide) (by decide) ?_
  refine z_aloadn zh dL_law_232 rfl ?_
  refine z_iloadn zh dL_law_233 rfl ?_
  refine z_iconst zh dL_law_234 ki_3 ?_
  refine z_iaddN zh dL_law_235 ?_
  refine z_sld (j := 3) zh rfl dL_law_236 (by decide) (by decide) ?_
  refine z_aloadn zh dL_law_237 rfl ?_
  refine z_iloadn zh dL_law_238 rfl ?_
  refine z_iconst zh dL_law_239 ki_4 ?_
  refine z_iaddN zh dL_law_240 ?_
  refine z_sld (j := 4) zh rfl dL_law_241 (by decide) (by decide) ?_
  refine z_callVI (As := [.int (xs 1), .int (xs 2), .int (xs 3), .int (xs 4)]) zh mv_Law_18 dL_law_242 ck_X rfl (c_X_tell g (x := xs 1) (y := xs 2) (w := xs 3) (v := xs 4) (dd := fun _ => 0) o0) ⟨(Nat.le_of_ble_eq_true rfl), (Nat.le_of_ble_eq_true rfl)⟩ rfl rfl (Nat.le_of_ble_eq_true rfl) ?_
  rintro _ iv1 lv1 ⟨rfl, hR1⟩
  refine z_aloadnR zh dL_law_245 rfl ?_
  refine z_aloadn zh dL_law_246 rfl ?_
  refine z_iloadn zh dL_law_247 rfl ?_
  refine z_iconst zh dL_law_248 ki_1 ?_
  refine z_iaddN zh dL_law_249 ?_
  refine z_sld (j := 1) zh rfl dL_law_250 (by decide) (by decide) ?_
  refine z_aloadn zh dL_law_251 rfl ?_
  refine z_iloadn zh dL_law_252 rfl ?_
  refine z_iconst zh dL_law_253 ki_2 ?_
  refine z_iaddN zh dL_law_254 ?_
  refine z_sld (j := 2) zh rfl dL_law_255 (by decide) (by decide) ?_
  refine z_aloadn zh dL_law_256 rfl ?_
  refine z_iloadn zh dL_law_257 rfl ?_
  refine z_iconst zh dL_law_258 ki_3 ?_
  refine z_iaddN zh dL_law_259 ?_
  refine z_sld (j := 3) zh rfl dL_law_260 (by decide) (by decide) ?_
  refine z_aloadn zh dL_law_261 rfl ?_
  refine z_iloadn zh dL_law_262 rfl ?_
  refine z_iconst zh dL_law_263 ki_4 ?_
  refine z_iaddN zh dL_law_264 ?_
  refine z_sld (j := 4) zh rfl dL_law_265 (by decide) (by decide) ?_
  refine z_callVI (As := [.int (xs 1), .int (xs 2), .int (xs 3), .int (xs 4)]) zh mv_Law_22 dL_law_266 ck_Y rfl (c_Y_tell g (x := xs 1) (y := xs 2) (w := xs 3) (v := xs 4) (dm := 0) hR1) ⟨(Nat.le_of_ble_eq_true rfl), (Nat.le_of_ble_eq_true rfl)⟩ rfl rfl (Nat.le_of_ble_eq_true rfl) ?_
  rintro _ iv2 lv2 rfl
  refine z_icmp_eq (tgt := 1483) zh dL_law_269 rfl (fun _ => ?_) (fun q => absurd rfl q)
  exact kk _ _
theorem la_2 {g : GE} {b : Nat} {xs : Nat → Int32} {Q : Option Value → Iv → Lv → Prop} {Z : ZT} (zh : LRw g b xs Q Z) (kk : ∀ iv lv, Z 1483 (LC g b) [] iv lv) : Z 274 (LC g b) [] iv0 lv0 := by
  refine z_aloadnR zh dL_law_274 rfl ?_
  refine z_aloadn zh dL_law_275 rfl ?_
  refine z_iloadn zh dL_law_276 rfl ?_
  refine z_iconst zh dL_law_277 ki_1 ?_
  refine z_iaddN zh dL_law_278 ?_
  refine z_sld (j := 1) zh rfl dL_law_279 (by decide) (by decide) ?_
  refine z_aloadn zh dL_law_280 rfl ?_
  refine z_iloadn zh dL_law_281 rfl ?_
  refine z_iconst zh dL_law_282 ki_2 ?_
  refine z_iaddN zh dL_law_283 ?_
  refine z_sld (j := 2) zh rfl dL_law_284 (by decide) (by decide) ?_
  refine z_callVI (As := [.int (xs 1), .int (xs 2)]) zh mv_Law_23 dL_law_285 ck_X rfl (c_X_price g (x := xs 1) (v := xs 2) (dd := fun _ => 0) o0) ⟨(Nat.le_of_ble_eq_true rfl), (Nat.le_of_ble_eq_true rfl)⟩ rfl rfl (Nat.le_of_ble_eq_true rfl) ?_
  rintro _ iv1 lv1 ⟨rfl, hR1⟩
  refine z_aloadnR zh dL_law_288 rfl ?_
  refine z_aloadn zh dL_law_289 rfl ?_
  refine z_iloadn zh dL_law_290 rfl ?_
  refine z_iconst zh dL_law_291 ki_1 ?_
  refine z_iaddN zh dL_law_292 ?_
  refine z_sld (j := 1) zh rfl dL_law_293 (by decide) (by decide) ?_
  refine z_aloadn zh dL_law_294 rfl ?_
  refine z_iloadn zh dL_law_295 rfl ?_
  refine z_iconst zh dL_law_296 ki_2 ?_
  refine z_iaddN zh dL_law_297 ?_
  refine z_sld (j := 2) zh rfl dL_law_298 (by decide) (by decide) ?_
  refine z_callVI (As := [.int (xs 1), .int (xs 2)]) zh mv_Law_26 dL_law_299 ck_Y rfl (c_Y_price g (x := xs 1) (v := xs 2) (dm := 0) hR1) ⟨(Nat.le_of_ble_eq_true rfl), (Nat.le_of_ble_eq_true rfl)⟩ rfl rfl (Nat.le_of_ble_eq_true rfl) ?_
  rintro _ iv2 lv2 rfl
  refine z_icmp_eq (tgt := 1483) zh dL_law_302 rfl (fun _ => ?_) (fun q => absurd rfl q)
  exact kk _ _
theorem la_3 {g : GE} {b : Nat} {xs : Nat → Int32} {Q : Option Value → Iv → Lv → Prop} {Z : ZT} (zh : LRw g b xs Q Z) (kk : ∀ iv lv, Z 1483 (LC g b) [] iv lv) : Z 307 (LC g b) [] iv0 lv0 := by
  refine z_aloadnR zh dL_law_307 rfl ?_
  refine z_aloadn zh dL_law_308 rfl ?_
  refine z_iloadn zh dL_law_309 rfl ?_
  refine z_iconst zh dL_law_310 ki_1 ?_
  refine z_iaddN zh dL_law_311 ?_
  refine z_sld (j := 1) zh rfl dL_law_312 (by decide) (by decide) ?_
  refine z_aloadn zh dL_law_313 rfl ?_
  refine z_iloadn zh dL_law_314 rfl ?_
  refine z_iconst zh dL_law_315 ki_2 ?_
  refine z_iaddN zh dL_law_316 ?_
  refine z_sld (j := 2) zh rfl dL_law_317 (by decide) (by decide) ?_
  refine z_aloadn zh dL_law_318 rfl ?_
  refine z_iloadn zh dL_law_319 rfl ?_
  refine z_iconst zh dL_law_320 ki_3 ?_
  refine z_iaddN zh dL_law_321 ?_
  refine z_sld (j := 3) zh rfl dL_law_322 (by decide) (by decide) ?_
  refine z_aloadn zh dL_law_323 rfl ?_
  refine z_iloadn zh dL_law_324 rfl ?_
  refine z_iconst zh dL_law_325 ki_4 ?_
  refine z_iaddN zh dL_law_326 ?_
  refine z_sld (j := 4) zh rfl dL_law_327 (by decide) (by decide) ?_
  refine z_aloadn zh dL_law_328 rfl ?_
  refine z_iloadn zh dL_law_329 rfl ?_
  refine z_iconst zh dL_law_330 ki_5 ?_
  refine z_iaddN zh dL_law_331 ?_
  refine z_sld (j := 5) zh rfl dL_law_332 (by decide) (by decide) ?_
  refine z_callVI (As := [.int (xs 1), .int (xs 2), .int (xs 3), .int (xs 4), .int (xs 5)]) zh mv_Law_27 dL_law_333 ck_X rfl (c_X_trade g (b := xs 1) (s := xs 2) (i := xs 3) (n := xs 4) (p := xs 5) (dd := fun _ => 0) o0) ⟨(Nat.le_of_ble_eq_true rfl), (Nat.le_of_ble_eq_true rfl)⟩ rfl rfl (Nat.le_of_ble_eq_true rfl) ?_
  rintro _ iv1 lv1 ⟨rfl, hR1⟩
  refine z_aloadnR zh dL_law_336 rfl ?_
  refine z_aloadn zh dL_law_337 rfl ?_
  refine z_iloadn zh dL_law_338 rfl ?_
  refine z_iconst zh dL_law_339 ki_1 ?_
  refine z_iaddN zh dL_law_340 ?_
  refine z_sld (j := 1) zh rfl dL_law_341 (by decide) (by decide) ?_
  refine z_aloadn zh dL_law_342 rfl ?_
  refine z_iloadn zh dL_law_343 rfl ?_
  refine z_iconst zh dL_law_344 ki_2 ?_
  refine z_iaddN zh dL_law_345 ?_
  refine z_sld (j := 2) zh rfl dL_law_346 (by decide) (by decide) ?_
  refine z_aloadn zh dL_law_347 rfl ?_
  refine z_iloadn zh dL_law_348 rfl ?_
  refine z_iconst zh dL_law_349 ki_3 ?_
  refine z_iaddN zh dL_law_350 ?_
  refine z_sld (j := 3) zh rfl dL_law_351 (by decide) (by decide) ?_
  refine z_aloadn zh dL_law_352 rfl ?_
  refine z_iloadn zh dL_law_353 rfl ?_
  refine z_iconst zh dL_law_354 ki_4 ?_
  refine z_iaddN zh dL_law_355 ?_
  refine z_sld (j := 4) zh rfl dL_law_356 (by decide) (by decide) ?_
  refine z_aloadn zh dL_law_357 rfl ?_
  refine z_iloadn zh dL_law_358 rfl ?_
  refine z_iconst zh dL_law_359 ki_5 ?_
  refine z_iaddN zh dL_law_360 ?_
  refine z_sld (j := 5) zh rfl dL_law_361 (by decide) (by decide) ?_
  refine z_callVI (As := [.int (xs 1), .int (xs 2), .int (xs 3), .int (xs 4), .int (xs 5)]) zh mv_Law_31 dL_law_362 ck_Y rfl (c_Y_trade g (b := xs 1) (s := xs 2) (i := xs 3) (n := xs 4) (p := xs 5) (dm := 0) hR1) ⟨(Nat.le_of_ble_eq_true rfl), (Nat.le_of_ble_eq_true rfl)⟩ rfl rfl (Nat.le_of_ble_eq_true rfl) ?_
  rintro _ iv2 lv2 rfl
  refine z_icmp_eq (tgt := 1483) zh dL_law_365 rfl (fun _ => ?_) (fun q => absurd rfl q)
  exact kk _ _
theorem la_4 {g : GE} {b : Nat} {xs : Nat → Int32} {Q : Option Value → Iv → Lv → Prop} {Z : ZT} (zh : LRw g b xs Q Z) (kk : ∀ iv lv, Z 1483 (LC g b) [] iv lv) : Z 370 (LC g b) [] iv0 lv0 := by
  refine z_aloadnR zh dL_law_370 rfl ?_
  refine z_aloadn zh dL_law_371 rfl ?_
  refine z_iloadn zh dL_law_372 rfl ?_
  refine z_iconst zh dL_law_373 ki_1 ?_
  refine z_iaddN zh dL_law_374 ?_
  refine z_sld (j := 1) zh rfl dL_law_375 (by decide) (by decide) ?_
  refine z_aloadn zh dL_law_376 rfl ?_
  refine z_iloadn zh dL_law_377 rfl ?_
  refine z_iconst zh dL_law_378 ki_2 ?_
  refine z_iaddN zh dL_law_379 ?_
  refine z_sld (j := 2) zh rfl dL_law_380 (by decide) (by decide) ?_
  refine z_aloadn zh dL_law_381 rfl ?_
  refine z_iloadn zh dL_law_382 rfl ?_
  refine z_iconst zh dL_law_383 ki_3 ?_
  refine z_iaddN zh dL_law_384 ?_
  refine z_sld (j := 3) zh rfl dL_law_385 (by decide) (by decide) ?_
  refine z_aloadn zh dL_law_386 rfl ?_
  refine z_iloadn zh dL_law_387 rfl ?_
  refine z_iconst zh dL_law_388 ki_4 ?_
  refine z_iaddN zh dL_law_389 ?_
  refine z_sld (j := 4) zh rfl dL_law_390 (by decide) (by decide) ?_
  refine z_aloadn zh dL_law_391 rfl ?_
  refine z_iloadn zh dL_law_392 rfl ?_
  refine z_iconst zh dL_law_393 ki_5 ?_
  refine z_iaddN zh dL_law_394 ?_
  refine z_sld (j := 5) zh rfl dL_law_395 (by decide) (by decide) ?_
  refine z_callVI (As := [.int (xs 1), .int (xs 2), .int (xs 3), .int (xs 4), .int (xs 5)]) zh mv_Law_32 dL_law_396 ck_X rfl (c_X_apart g (b := xs 1) (s := xs 2) (i := xs 3) (n := xs 4) (p := xs 5) (dd := fun _ => 0) o0) ⟨(Nat.le_of_ble_eq_true rfl), (Nat.le_of_ble_eq_true rfl)⟩ rfl rfl (Nat.le_of_ble_eq_true rfl) ?_
  rintro _ iv1 lv1 ⟨rfl, hR1⟩
  refine z_aloadnR zh dL_law_399 rfl ?_
  refine z_aloadn zh dL_law_400 rfl ?_
  refine z_iloadn zh dL_law_401 rfl ?_
  refine z_iconst zh dL_law_402 ki_1 ?_
  refine z_iaddN zh dL_law_403 ?_
  refine z_sld (j := 1) zh rfl dL_law_404 (by decide) (by decide) ?_
  refine z_aloadn zh dL_law_405 rfl ?_
  refine z_iloadn zh dL_law_406 rfl ?_
  refine z_iconst zh dL_law_407 ki_2 ?_
  refine z_iaddN zh dL_law_408 ?_
  refine z_sld (j := 2) zh rfl dL_law_409 (by decide) (by decide) ?_
  refine z_aloadn zh dL_law_410 rfl ?_
  refine z_iloadn zh dL_law_411 rfl ?_
  refine z_iconst zh dL_law_412 ki_3 ?_
  refine z_iaddN zh dL_law_413 ?_
  refine z_sld (j := 3) zh rfl dL_law_414 (by decide) (by decide) ?_
  refine z_aloadn zh dL_law_415 rfl ?_
  refine z_iloadn zh dL_law_416 rfl ?_
  refine z_iconst zh dL_law_417 ki_4 ?_
  refine z_iaddN zh dL_law_418 ?_
  refine z_sld (j := 4) zh rfl dL_law_419 (by decide) (by decide) ?_
  refine z_aloadn zh dL_law_420 rfl ?_
  refine z_iloadn zh dL_law_421 rfl ?_
  refine z_iconst zh dL_law_422 ki_5 ?_
  refine z_iaddN zh dL_law_423 ?_
  refine z_sld (j := 5) zh rfl dL_law_424 (by decide) (by decide) ?_
  refine z_callVI (As := [.int (xs 1), .int (xs 2), .int (xs 3), .int (xs 4), .int (xs 5)]) zh mv_Law_35 dL_law_425 ck_Y rfl (c_Y_apart g (b := xs 1) (s := xs 2) (i := xs 3) (n := xs 4) (p := xs 5) (dm := 0) hR1) ⟨(Nat.le_of_ble_eq_true rfl), (Nat.le_of_ble_eq_true rfl)⟩ rfl rfl (Nat.le_of_ble_eq_true rfl) ?_
  rintro _ iv2 lv2 rfl
  refine z_icmp_eq (tgt := 1483) zh dL_law_428 rfl (fun _ => ?_) (fun q => absurd rfl q)
  exact kk _ _
theorem la_5 {g : GE} {b : Nat} {xs : Nat → Int32} {Q : Option Value → Iv → Lv → Prop} {Z : ZT} (zh : LRw g b xs Q Z) (kk : ∀ iv lv, Z 1483 (LC g b) [] iv lv) : Z 433 (LC g b) [] iv0 lv0 := by
  refine z_aloadnR zh dL_law_433 rfl ?_
  refine z_aloadn zh dL_law_434 rfl ?_
  refine z_iloadn zh dL_law_435 rfl ?_
  refine z_iconst zh dL_law_436 ki_1 ?_
  refine z_iaddN zh dL_law_437 ?_
  refine z_sld (j := 1) zh rfl dL_law_438 (by decide) (by decide) ?_
  refine z_aloadn zh dL_law_439 rfl ?_
  refine z_iloadn zh dL_law_440 rfl ?_
  refine z_iconst zh dL_law_441 ki_2 ?_
  refine z_iaddN zh dL_law_442 ?_
  refine z_sld (j := 2) zh rfl dL_law_443 (by decide) (by decide) ?_
  refine z_callVI (As := [.int (xs 1), .int (xs 2)]) zh mv_Law_36 dL_law_444 ck_X rfl (c_X_dividend g (x := xs 1) (v := xs 2) (dd := fun _ => 0) o0) ⟨(Nat.le_of_ble_eq_true rfl), (Nat.le_of_ble_eq_true rfl)⟩ rfl rfl (Nat.le_of_ble_eq_true rfl) ?_
  rintro _ iv1 lv1 ⟨rfl, hR1⟩
  refine z_aloadnR zh dL_law_447 rfl ?_
  refine z_aloadn zh dL_law_448 rfl ?_
  refine z_iloadn zh dL_law_449 rfl ?_
  refine z_iconst zh dL_law_450 ki_1 ?_
  refine z_iaddN zh dL_law_451 ?_
  refine z_sld (j := 1) zh rfl dL_law_452 (by decide) (by decide) ?_
  refine z_aloadn zh dL_law_453 rfl ?_
  refine z_iloadn zh dL_law_454 rfl ?_
  refine z_iconst zh dL_law_455 ki_2 ?_
  refine z_iaddN zh dL_law_456 ?_
  refine z_sld (j := 2) zh rfl dL_law_457 (by decide) (by decide) ?_
  refine z_callVI (As := [.int (xs 1), .int (xs 2)]) zh mv_Law_39 dL_law_458 ck_Y rfl (c_Y_dividend g (x := xs 1) (v := xs 2) (dm := 0) hR1) ⟨(Nat.le_of_ble_eq_true rfl), (Nat.le_of_ble_eq_true rfl)⟩ rfl rfl (Nat.le_of_ble_eq_true rfl) ?_
  rintro _ iv2 lv2 rfl
  refine z_icmp_eq (tgt := 1483) zh dL_law_461 rfl (fun _ => ?_) (fun q => absurd rfl q)
  exact kk _ _
theorem la_6 {g : GE} {b : Nat} {xs : Nat → Int32} {Q : Option Value → Iv → Lv → Prop} {Z : ZT} (zh : LRw g b xs Q Z) (kk : ∀ iv lv, Z 1483 (LC g b) [] iv lv) : Z 466 (LC g b) [] iv0 lv0 := by
  refine z_aloadnR zh dL_law_466 rfl ?_
  refine z_aloadn zh dL_law_467 rfl ?_
  refine z_iloadn zh dL_law_468 rfl ?_
  refine z_iconst zh dL_law_469 ki_1 ?_
  refine z_iaddN zh dL_law_470 ?_
  refine z_sld (j := 1) zh rfl dL_law_471 (by decide) (by decide) ?_
  refine z_aloadn zh dL_law_472 rfl ?_
  refine z_iloadn zh dL_law_473 rfl ?_
  refine z_iconst zh dL_law_474 ki_2 ?_
  refine z_iaddN zh dL_law_475 ?_
  refine z_sld (j := 2) zh rfl dL_law_476 (by decide) (by decide) ?_
  refine z_aloadn zh dL_law_477 rfl ?_
  refine z_iloadn zh dL_law_478 rfl ?_
  refine z_iconst zh dL_law_479 ki_3 ?_
  refine z_iaddN zh dL_law_480 ?_
  refine z_sld (j := 3) zh rfl dL_law_481 (by decide) (by decide) ?_
  refine z_aloadn zh dL_law_482 rfl ?_
  refine z_iloadn zh dL_law_483 rfl ?_
  refine z_iconst zh dL_law_484 ki_4 ?_
  refine z_iaddN zh dL_law_485 ?_
  refine z_sld (j := 4) zh rfl dL_law_486 (by decide) (by decide) ?_
  refine z_callVI (As := [.int (xs 1), .int (xs 2), .int (xs 3), .int (xs 4)]) zh mv_Law_40 dL_law_487 ck_X rfl (c_X_move g (x := xs 1) (y := xs 2) (z := xs 3) (n := xs 4) (dd := fun _ => 0) o0) ⟨(Nat.le_of_ble_eq_true rfl), (Nat.le_of_ble_eq_true rfl)⟩ rfl rfl (Nat.le_of_ble_eq_true rfl) ?_
  rintro _ iv1 lv1 ⟨rfl, hR1⟩
  refine z_aloadnR zh dL_law_490 rfl ?_
  refine z_aloadn zh dL_law_491 rfl ?_
  refine z_iloadn zh dL_law_492 rfl ?_
  refine z_iconst zh dL_law_493 ki_1 ?_
  refine z_iaddN zh dL_law_494 ?_
  refine z_sld (j := 1) zh rfl dL_law_495 (by decide) (by decide) ?_
  refine z_aloadn zh dL_law_496 rfl ?_
  refine z_iloadn zh dL_law_497 rfl ?_
  refine z_iconst zh dL_law_498 ki_2 ?_
  refine z_iaddN zh dL_law_499 ?_
  refine z_sld (j := 2) zh rfl dL_law_500 (by decide) (by decide) ?_
  refine z_aloadn zh dL_law_501 rfl ?_
  refine z_iloadn zh dL_law_502 rfl ?_
  refine z_iconst zh dL_law_503 ki_3 ?_
  refine z_iaddN zh dL_law_504 ?_
  refine z_sld (j := 3) zh rfl dL_law_505 (by decide) (by decide) ?_
  refine z_aloadn zh dL_law_506 rfl ?_
  refine z_iloadn zh dL_law_507 rfl ?_
  refine z_iconst zh dL_law_508 ki_4 ?_
  refine z_iaddN zh dL_law_509 ?_
  refine z_sld (j := 4) zh rfl dL_law_510 (by decide) (by decide) ?_
  refine z_callVI (As := [.int (xs 1), .int (xs 2), .int (xs 3), .int (xs 4)]) zh mv_Law_43 dL_law_511 ck_Y rfl (c_Y_move g (x := xs 1) (y := xs 2) (z := xs 3) (n := xs 4) (dm := 0) hR1) ⟨(Nat.le_of_ble_eq_true rfl), (Nat.le_of_ble_eq_true rfl)⟩ rfl rfl (Nat.le_of_ble_eq_true rfl) ?_
  rintro _ iv2 lv2 rfl
  refine z_icmp_eq (tgt := 1483) zh dL_law_514 rfl (fun _ => ?_) (fun q => absurd rfl q)
  exact kk _ _
theorem la_7 {g : GE} {b : Nat} {xs : Nat → Int32} {Q : Option Value → Iv → Lv → Prop} {Z : ZT} (zh : LRw g b xs Q Z) (kk : ∀ iv lv, Z 1483 (LC g b) [] iv lv) : Z 519 (LC g b) [] iv0 lv0 := by
  refine z_aloadnR zh dL_law_519 rfl ?_
  refine z_aloadn zh dL_law_520 rfl ?_
  refine z_iloadn zh dL_law_521 rfl ?_
  refine z_iconst zh dL_law_522 ki_1 ?_
  refine z_iaddN zh dL_law_523 ?_
  refine z_sld (j := 1) zh rfl dL_law_524 (by decide) (by decide) ?_
  refine z_aloadn zh dL_law_525 rfl ?_
  refine z_iloadn zh dL_law_526 rfl ?_
  refine z_iconst zh dL_law_527 ki_2 ?_
  refine z_iaddN zh dL_law_528 ?_
  refine z_sld (j := 2) zh rfl dL_law_529 (by decide) (by decide) ?_
  refine z_callVI (As := [.int (xs 1), .int (xs 2)]) zh mv_Law_44 dL_law_530 ck_X rfl (c_X_split g (x := xs 1) (n := xs 2) (dd := fun _ => 0) o0) ⟨(Nat.le_of_ble_eq_true rfl), (Nat.le_of_ble_eq_true rfl)⟩ rfl rfl (Nat.le_of_ble_eq_true rfl) ?_
  rintro _ iv1 lv1 ⟨rfl, hR1⟩
  refine z_aloadnR zh dL_law_533 rfl ?_
  refine z_aloadn zh dL_law_534 rfl ?_
  refine z_iloadn zh dL_law_535 rfl ?_
  refine z_iconst zh dL_law_536 ki_1 ?_
  refine z_iaddN zh dL_law_537 ?_
  refine z_sld (j := 1) zh rfl dL_law_538 (by decide) (by decide) ?_
  refine z_aloadn zh dL_law_539 rfl ?_
  refine z_iloadn zh dL_law_540 rfl ?_
  refine z_iconst zh dL_law_541 ki_2 ?_
  refine z_iaddN zh dL_law_542 ?_
  refine z_sld (j := 2) zh rfl dL_law_543 (by decide) (by decide) ?_
  refine z_callVI (As := [.int (xs 1), .int (xs 2)]) zh mv_Law_47 dL_law_544 ck_Y rfl (c_Y_split g (x := xs 1) (n := xs 2) (dm := 0) hR1) ⟨(Nat.le_of_ble_eq_true rfl), (Nat.le_of_ble_eq_true rfl)⟩ rfl rfl (Nat.le_of_ble_eq_true rfl) ?_
  rintro _ iv2 lv2 rfl
  refine z_icmp_eq (tgt := 1483) zh dL_law_547 rfl (fun _ => ?_) (fun q => absurd rfl q)
  exact kk _ _
theorem la_8 {g : GE} {b : Nat} {xs : Nat → Int32} {Q : Option Value → Iv → Lv → Prop} {Z : ZT} (zh : LRw g b xs Q Z) (kk : ∀ iv lv, Z 1483 (LC g b) [] iv lv) : Z 552 (LC g b) [] iv0 lv0 := by
  refine z_aloadnR zh dL_law_552 rfl ?_
  refine z_aloadn zh dL_law_553 rfl ?_
  refine z_iloadn zh dL_law_554 rfl ?_
  refine z_iconst zh dL_law_555 ki_1 ?_
  refine z_iaddN zh dL_law_556 ?_
  refine z_sld (j := 1) zh rfl dL_law_557 (by decide) (by decide) ?_
  refine z_aloadn zh dL_law_558 rfl ?_
  refine z_iloadn zh dL_law_559 rfl ?_
  refine z_iconst zh dL_law_560 ki_2 ?_
  refine z_iaddN zh dL_law_561 ?_
  refine z_sld (j := 2) zh rfl dL_law_562 (by decide) (by decide) ?_
  refine z_if_eq (tgt := 570) zh dL_law_563 rfl (fun hb1 => ?_) (fun hb1 => ?_)
  · refine z_iconst zh dL_law_570 ki_0 ?_
    refine z_callVI (As := [.int (xs 1), .int (nI 0)]) zh mv_Law_48 dL_law_571 ck_X rfl (c_X_suspend g (x := xs 1) (z := nI 0) (dd := fun _ => 0) o0) ⟨(Nat.le_of_ble_eq_true rfl), (Nat.le_of_ble_eq_true rfl)⟩ rfl rfl (Nat.le_of_ble_eq_true rfl) ?_
    rintro _ iv1 lv1 ⟨rfl, hR1⟩
    refine z_aloadnR zh dL_law_574 rfl ?_
    refine z_aloadn zh dL_law_575 rfl ?_
    refine z_iloadn zh dL_law_576 rfl ?_
    refine z_iconst zh dL_law_577 ki_1 ?_
    refine z_iaddN zh dL_law_578 ?_
    refine z_sld (j := 1) zh rfl dL_law_579 (by decide) (by decide) ?_
    refine z_aloadn zh dL_law_580 rfl ?_
    refine z_iloadn zh dL_law_581 rfl ?_
    refine z_iconst zh dL_law_582 ki_2 ?_
    refine z_iaddN zh dL_law_583 ?_
    refine z_sld (j := 2) zh rfl dL_law_584 (by decide) (by decide) ?_
    refine z_if_eq (tgt := 592) zh dL_law_585 rfl (fun _ => ?_) (fun q => absurd hb1 q)
    refine z_iconst zh dL_law_592 ki_0 ?_
    refine z_callVI (As := [.int (xs 1), .int (nI 0)]) zh mv_Law_52 dL_law_593 ck_Y rfl (c_Y_suspend g (x := xs 1) (z := nI 0) (dm := 0) hR1) ⟨(Nat.le_of_ble_eq_true rfl), (Nat.le_of_ble_eq_true rfl)⟩ rfl rfl (Nat.le_of_ble_eq_true rfl) ?_
    rintro _ iv2 lv2 rfl
    refine z_icmp_eq (tgt := 1483) zh dL_law_596 rfl (fun _ => ?_) (fun q => absurd rfl q)
    exact kk _ _
  · refine z_iconst zh dL_law_566 ki_1 ?_
    refine z_goto (tgt := 571) zh dL_law_567 rfl ?_
    refine z_callVI (As := [.int (xs 1), .int (nI 1)]) zh mv_Law_48 dL_law_571 ck_X rfl (c_X_suspend g (x := xs 1) (z := nI 1) (dd := fun _ => 0) o0) ⟨(Nat.le_of_ble_eq_true rfl), (Nat.le_of_ble_eq_true rfl)⟩ rfl rfl (Nat.le_of_ble_eq_true rfl) ?_
    rintro _ iv1 lv1 ⟨rfl, hR1⟩
    refine z_aloadnR zh dL_law_574 rfl ?_
    refine z_aloadn zh dL_law_575 rfl ?_
    refine z_iloadn zh dL_law_576 rfl ?_
    refine z_iconst zh dL_law_577 ki_1 ?_
    refine z_iaddN zh dL_law_578 ?_
    refine z_sld (j := 1) zh rfl dL_law_579 (by decide) (by decide) ?_
    refine z_aloadn zh dL_law_580 rfl ?_
    refine z_iloadn zh dL_law_581 rfl ?_
    refine z_iconst zh dL_law_582 ki_2 ?_
    refine z_iaddN zh dL_law_583 ?_
    refine z_sld (j := 2) zh rfl dL_law_584 (by decide) (by decide) ?_
    refine z_if_eq (tgt := 592) zh dL_law_585 rfl (fun q => absurd q hb1) (fun _ => ?_)
    refine z_iconst zh dL_law_588 ki_1 ?_
    refine z_goto (tgt := 593) zh dL_law_589 rfl ?_
    refine z_callVI (As := [.int (xs 1), .int (nI 1)]) zh mv_Law_52 dL_law_593 ck_Y rfl (c_Y_suspend g (x := xs 1) (z := nI 1) (dm := 0) hR1) ⟨(Nat.le_of_ble_eq_true rfl), (Nat.le_of_ble_eq_true rfl)⟩ rfl rfl (Nat.le_of_ble_eq_true rfl) ?_
    rintro _ iv2 lv2 rfl
    refine z_icmp_eq (tgt := 1483) zh dL_law_596 rfl (fun _ => ?_) (fun q => absurd rfl q)
    exact kk _ _
theorem la_9 {g : GE} {b : Nat} {xs : Nat → Int32} {Q : Option Value → Iv → Lv → Prop} {Z : ZT} (zh : LRw g b xs Q Z) (kk : ∀ iv lv, Z 1483 (LC g b) [] iv lv) : Z 601 (LC g b) [] iv0 lv0 := by
  refine z_aloadnR zh dL_law_601 rfl ?_
  refine z_aloadn zh dL_law_602 rfl ?_
  refine z_iloadn zh dL_law_603 rfl ?_
  refine z_iconst zh dL_law_604 ki_1 ?_
  refine z_iaddN zh dL_law_605 ?_
  refine z_sld (j := 1) zh rfl dL_law_606 (by decide) (by decide) ?_
  refine z_aloadn zh dL_law_607 rfl ?_
  refine z_iloadn zh dL_law_608 rfl ?_
  refine z_iconst zh dL_law_609 ki_2 ?_
  refine z_iaddN zh dL_law_610 ?_
  refine z_sld (j := 2) zh rfl dL_law_611 (by decide) (by decide) ?_
  refine z_callVI (As := [.int (xs 1), .int (xs 2)]) zh mv_Law_53 dL_law_612 ck_X rfl (c_X_collateral g (x := xs 1) (v := xs 2) (dd := fun _ => 0) o0) ⟨(Nat.le_of_ble_eq_true rfl), (Nat.le_of_ble_eq_true rfl)⟩ rfl rfl (Nat.le_of_ble_eq_true rfl) ?_
  rintro _ iv1 lv1 ⟨rfl, hR1⟩
  refine z_aloadnR zh dL_law_615 rfl ?_
  refine z_aloadn zh dL_law_616 rfl ?_
  refine z_iloadn zh dL_law_617 rfl ?_
  refine z_iconst zh dL_law_618 ki_1 ?_
  refine z_iaddN zh dL_law_619 ?_
  refine z_sld (j := 1) zh rfl dL_law_620 (by decide) (by decide) ?_
  refine z_aloadn zh dL_law_621 rfl ?_
  refine z_iloadn zh dL_law_622 rfl ?_
  refine z_iconst zh dL_law_623 ki_2 ?_
  refine z_iaddN zh dL_law_624 ?_
  refine z_sld (j := 2) zh rfl dL_law_625 (by decide) (by decide) ?_
  refine z_callVI (As := [.int (xs 1), .int (xs 2)]) zh mv_Law_56 dL_law_626 ck_Y rfl (c_Y_collateral g (x := xs 1) (v := xs 2) (dm := 0) hR1) ⟨(Nat.le_of_ble_eq_true rfl), (Nat.le_of_ble_eq_true rfl)⟩ rfl rfl (Nat.le_of_ble_eq_true rfl) ?_
  rintro _ iv2 lv2 rfl
  refine z_icmp_eq (tgt := 1483) zh dL_law_629 rfl (fun _ => ?_) (fun q => absurd rfl q)
  exact kk _ _
theorem la_10 {g : GE} {b : Nat} {xs : Nat → Int32} {Q : Option Value → Iv → Lv → Prop} {Z : ZT} (zh : LRw g b xs Q Z) (kk : ∀ iv lv, Z 1483 (LC g b) [] iv lv) : Z 634 (LC g b) [] iv0 lv0 := by
  refine z_aloadnR zh dL_law_634 rfl ?_
  refine z_aloadn zh dL_law_635 rfl ?_
  refine z_iloadn zh dL_law_636 rfl ?_
  refine z_iconst zh dL_law_637 ki_1 ?_
  refine z_iaddN zh dL_law_638 ?_
  refine z_sld (j := 1) zh rfl dL_law_639 (by decide) (by decide) ?_
  refine z_callVI (As := [.int (xs 1)]) zh mv_Law_57 dL_law_640 ck_X rfl (c_X_night g (x := xs 1) (dd := fun _ => 0) o0) ⟨(Nat.le_of_ble_eq_true rfl), (Nat.le_of_ble_eq_true rfl)⟩ rfl rfl (Nat.le_of_ble_eq_true rfl) ?_
  rintro _ iv1 lv1 ⟨rfl, hR1⟩
  refine z_aloadnR zh dL_law_643 rfl ?_
  refine z_aloadn zh dL_law_644 rfl ?_
  refine z_iloadn zh dL_law_645 rfl ?_
  refine z_iconst zh dL_law_646 ki_1 ?_
  refine z_iaddN zh dL_law_647 ?_
  refine z_sld (j := 1) zh rfl dL_law_648 (by decide) (by decide) ?_
  refine z_callVI (As := [.int (xs 1)]) zh mv_Law_61 dL_law_649 ck_Y rfl (c_Y_night g (x := xs 1) (dm := 0) hR1) ⟨(Nat.le_of_ble_eq_true rfl), (Nat.le_of_ble_eq_true rfl)⟩ rfl rfl (Nat.le_of_ble_eq_true rfl) ?_
  rintro _ iv2 lv2 rfl
  refine z_icmp_eq (tgt := 1483) zh dL_law_652 rfl (fun _ => ?_) (fun q => absurd rfl q)
  exact kk _ _
theorem la_11 {g : GE} {b : Nat} {xs : Nat → Int32} {Q : Option Value → Iv → Lv → Prop} {Z : ZT} (zh : LRw g b xs Q Z) (kk : ∀ iv lv, Z 1483 (LC g b) [] iv lv) : Z 657 (LC g b) [] iv0 lv0 := by
  refine z_aloadnR zh dL_law_657 rfl ?_
  refine z_aloadn zh dL_law_658 rfl ?_
  refine z_iloadn zh dL_law_659 rfl ?_
  refine z_iconst zh dL_law_660 ki_1 ?_
  refine z_iaddN zh dL_law_661 ?_
  refine z_sld (j := 1) zh rfl dL_law_662 (by decide) (by decide) ?_
  refine z_aloadn zh dL_law_663 rfl ?_
  refine z_iloadn zh dL_law_664 rfl ?_
  refine z_iconst zh dL_law_665 ki_2 ?_
  refine z_iaddN zh dL_law_666 ?_
  refine z_sld (j := 2) zh rfl dL_law_667 (by decide) (by decide) ?_
  refine z_aloadn zh dL_law_668 rfl ?_
  refine z_iloadn zh dL_law_669 rfl ?_
  refine z_iconst zh dL_law_670 ki_3 ?_
  refine z_iaddN zh dL_law_671 ?_
  refine z_sld (j := 3) zh rfl dL_law_672 (by decide) (by decide) ?_
  refine z_callVI (As := [.int (xs 1), .int (xs 2), .int (xs 3)]) zh mv_Law_62 dL_law_673 ck_X rfl (c_X_give g (x := xs 1) (y := xs 2) (z := xs 3) (dd := fun _ => 0) o0) ⟨(Nat.le_of_ble_eq_true rfl), (Nat.le_of_ble_eq_true rfl)⟩ rfl rfl (Nat.le_of_ble_eq_true rfl) ?_
  rintro _ iv1 lv1 ⟨rfl, hR1⟩
  refine z_aloadnR zh dL_law_676 rfl ?_
  refine z_aloadn zh dL_law_677 rfl ?_
  refine z_iloadn zh dL_law_678 rfl ?_
  refine z_iconst zh dL_law_679 ki_1 ?_
  refine z_iaddN zh dL_law_680 ?_
  refine z_sld (j := 1) zh rfl dL_law_681 (by decide) (by decide) ?_
  refine z_aloadn zh dL_law_682 rfl ?_
  refine z_iloadn zh dL_law_683 rfl ?_
  refine z_iconst zh dL_law_684 ki_2 ?_
  refine z_iaddN zh dL_law_685 ?_
  refine z_sld (j := 2) zh rfl dL_law_686 (by decide) (by decide) ?_
  refine z_aloadn zh dL_law_687 rfl ?_
  refine z_iloadn zh dL_law_688 rfl ?_
  refine z_iconst zh dL_law_689 ki_3 ?_
  refine z_iaddN zh dL_law_690 ?_
  refine z_sld (j := 3) zh rfl dL_law_691 (by decide) (by decide) ?_
  refine z_callVI (As := [.int (xs 1), .int (xs 2), .int (xs 3)]) zh mv_Law_66 dL_law_692 ck_Y rfl (c_Y_give g (x := xs 1) (y := xs 2) (z := xs 3) (dm := 0) hR1) ⟨(Nat.le_of_ble_eq_true rfl), (Nat.le_of_ble_eq_true rfl)⟩ rfl rfl (Nat.le_of_ble_eq_true rfl) ?_
  rintro _ iv2 lv2 rfl
  refine z_icmp_eq (tgt := 1483) zh dL_law_695 rfl (fun _ => ?_) (fun q => absurd rfl q)
  exact kk _ _
theorem la_12 {g : GE} {b : Nat} {xs : Nat → Int32} {Q : Option Value → Iv → Lv → Prop} {Z : ZT} (zh : LRw g b xs Q Z) (kk : ∀ iv lv, Z 1483 (LC g b) [] iv lv) : Z 700 (LC g b) [] iv0 lv0 := by
  refine z_aloadnR zh dL_law_700 rfl ?_
  refine z_aloadn zh dL_law_701 rfl ?_
  refine z_iloadn zh dL_law_702 rfl ?_
  refine z_iconst zh dL_law_703 ki_1 ?_
  refine z_iaddN zh dL_law_704 ?_
  refine z_sld (j := 1) zh rfl dL_law_705 (by decide) (by decide) ?_
  refine z_callVI (As := [.int (xs 1)]) zh mv_Law_67 dL_law_706 ck_X rfl (c_X_call g (x := xs 1) (dd := fun _ => 0) o0) ⟨(Nat.le_of_ble_eq_true rfl), (Nat.le_of_ble_eq_true rfl)⟩ rfl rfl (Nat.le_of_ble_eq_true rfl) ?_
  rintro _ iv1 lv1 ⟨rfl, hR1⟩
  refine z_aloadnR zh dL_law_709 rfl ?_
  refine z_aloadn zh dL_law_710 rfl ?_
  refine z_iloadn zh dL_law_711 rfl ?_
  refine z_iconst zh dL_law_712 ki_1 ?_
  refine z_iaddN zh dL_law_713 ?_
  refine z_sld (j := 1) zh rfl dL_law_714 (by decide) (by decide) ?_
  refine z_callVI (As := [.int (xs 1)]) zh mv_Law_70 dL_law_715 ck_Y rfl (c_Y_call g (x := xs 1) (dm := 0) hR1) ⟨(Nat.le_of_ble_eq_true rfl), (Nat.le_of_ble_eq_true rfl)⟩ rfl rfl (Nat.le_of_ble_eq_true rfl) ?_
  rintro _ iv2 lv2 rfl
  refine z_icmp_eq (tgt := 1483) zh dL_law_718 rfl (fun _ => ?_) (fun q => absurd rfl q)
  exact kk _ _
theorem la_13 {g : GE} {b : Nat} {xs : Nat → Int32} {Q : Option Value → Iv → Lv → Prop} {Z : ZT} (zh : LRw g b xs Q Z) (kk : ∀ iv lv, Z 1483 (LC g b) [] iv lv) : Z 723 (LC g b) [] iv0 lv0 := by
  refine z_aloadnR zh dL_law_723 rfl ?_
  refine z_aloadn zh dL_law_724 rfl ?_
  refine z_iloadn zh dL_law_725 rfl ?_
  refine z_iconst zh dL_law_726 ki_1 ?_
  refine z_iaddN zh dL_law_727 ?_
  refine z_sld (j := 1) zh rfl dL_law_728 (by decide) (by decide) ?_
  refine z_aloadn zh dL_law_729 rfl ?_
  refine z_iloadn zh dL_law_730 rfl ?_
  refine z_iconst zh dL_law_731 ki_2 ?_
  refine z_iaddN zh dL_law_732 ?_
  refine z_sld (j := 2) zh rfl dL_law_733 (by decide) (by decide) ?_
  refine z_aloadn zh dL_law_734 rfl ?_
  refine z_iloadn zh dL_law_735 rfl ?_
  refine z_iconst zh dL_law_736 ki_3 ?_
  refine z_iaddN zh dL_law_737 ?_
  refine z_sld (j := 3) zh rfl dL_law_738 (by decide) (by decide) ?_
  refine z_aloadn zh dL_law_739 rfl ?_
  refine z_iloadn zh dL_law_740 rfl ?_
  refine z_iconst zh dL_law_741 ki_4 ?_
  refine z_iaddN zh dL_law_742 ?_
  refine z_sld (j := 4) zh rfl dL_law_743 (by decide) (by decide) ?_
  refine z_aloadn zh dL_law_744 rfl ?_
  refine z_iloadn zh dL_law_745 rfl ?_
  refine z_iconst zh dL_law_746 ki_5 ?_
  refine z_iaddN zh dL_law_747 ?_
  refine z_sld (j := 5) zh rfl dL_law_748 (by decide) (by decide) ?_
  refine z_callVI (As := [.int (xs 1), .int (xs 2), .int (xs 3), .int (xs 4), .int (xs 5)]) zh mv_Law_71 dL_law_749 ck_X rfl (c_X_feed g (a := xs 1) (b := xs 2) (c := xs 3) (d := xs 4) (e := xs 5) (dd := fun _ => 0) o0) ⟨(Nat.le_of_ble_eq_true rfl), (Nat.le_of_ble_eq_true rfl)⟩ rfl rfl (Nat.le_of_ble_eq_true rfl) ?_
  rintro _ iv1 lv1 ⟨rfl, hR1⟩
  refine z_aloadnR zh dL_law_752 rfl ?_
  refine z_aloadn zh dL_law_753 rfl ?_
  refine z_iloadn zh dL_law_754 rfl ?_
  refine z_iconst zh dL_law_755 ki_1 ?_
  refine z_iaddN zh dL_law_756 ?_
  refine z_sld (j := 1) zh rfl dL_law_757 (by decide) (by decide) ?_
  refine z_aloadn zh dL_law_758 rfl ?_
  refine z_iloadn zh dL_law_759 rfl ?_
  refine z_iconst zh dL_law_760 ki_2 ?_
  refine z_iaddN zh dL_law_761 ?_
  refine z_sld (j := 2) zh rfl dL_law_762 (by decide) (by decide) ?_
  refine z_aloadn zh dL_law_763 rfl ?_
  refine z_iloadn zh dL_law_764 rfl ?_
  refine z_iconst zh dL_law_765 ki_3 ?_
  refine z_iaddN zh dL_law_766 ?_
  refine z_sld (j := 3) zh rfl dL_law_767 (by decide) (by decide) ?_
  refine z_aloadn zh dL_law_768 rfl ?_
  refine z_iloadn zh dL_law_769 rfl ?_
  refine z_iconst zh dL_law_770 ki_4 ?_
  refine z_iaddN zh dL_law_771 ?_
  refine z_sld (j := 4) zh rfl dL_law_772 (by decide) (by decide) ?_
  refine z_aloadn zh dL_law_773 rfl ?_
  refine z_iloadn zh dL_law_774 rfl ?_
  refine z_iconst zh dL_law_775 ki_5 ?_
  refine z_iaddN zh dL_law_776 ?_
  refine z_sld (j := 5) zh rfl dL_law_777 (by decide) (by decide) ?_
  refine z_callVI (As := [.int (xs 1), .int (xs 2), .int (xs 3), .int (xs 4), .int (xs 5)]) zh mv_Law_74 dL_law_778 ck_Y rfl (c_Y_feed g (a := xs 1) (b := xs 2) (c := xs 3) (d := xs 4) (e := xs 5) (dm := 0) hR1) ⟨(Nat.le_of_ble_eq_true rfl), (Nat.le_of_ble_eq_true rfl)⟩ rfl rfl (Nat.le_of_ble_eq_true rfl) ?_
  rintro _ iv2 lv2 rfl
  refine z_icmp_eq (tgt := 1483) zh dL_law_781 rfl (fun _ => ?_) (fun q => absurd rfl q)
  exact kk _ _
theorem la_14 {g : GE} {b : Nat} {xs : Nat → Int32} {Q : Option Value → Iv → Lv → Prop} {Z : ZT} (zh : LRw g b xs Q Z) (kk : ∀ iv lv, Z 1483 (LC g b) [] iv lv) : Z 786 (LC g b) [] iv0 lv0 := by
  refine z_aloadnR zh dL_law_786 rfl ?_
  refine z_aloadn zh dL_law_787 rfl ?_
  refine z_iloadn zh dL_law_788 rfl ?_
  refine z_iconst zh dL_law_789 ki_1 ?_
  refine z_iaddN zh dL_law_790 ?_
  refine z_sld (j := 1) zh rfl dL_law_791 (by decide) (by decide) ?_
  refine z_callVI (As := [.int (xs 1)]) zh mv_Law_75 dL_law_792 ck_X rfl (c_X_end g (x := xs 1) (dd := fun _ => 0) o0) ⟨(Nat.le_of_ble_eq_true rfl), (Nat.le_of_ble_eq_true rfl)⟩ rfl rfl (Nat.le_of_ble_eq_true rfl) ?_
  rintro _ iv1 lv1 ⟨rfl, hR1⟩
  refine z_aloadnR zh dL_law_795 rfl ?_
  refine z_aloadn zh dL_law_796 rfl ?_
  refine z_iloadn zh dL_law_797 rfl ?_
  refine z_iconst zh dL_law_798 ki_1 ?_
  refine z_iaddN zh dL_law_799 ?_
  refine z_sld (j := 1) zh rfl dL_law_800 (by decide) (by decide) ?_
  refine z_callVI (As := [.int (xs 1)]) zh mv_Law_79 dL_law_801 ck_Y rfl (c_Y_end g (x := xs 1) (dm := 0) hR1) ⟨(Nat.le_of_ble_eq_true rfl), (Nat.le_of_ble_eq_true rfl)⟩ rfl rfl (Nat.le_of_ble_eq_true rfl) ?_
  rintro _ iv2 lv2 rfl
  refine z_icmp_eq (tgt := 1483) zh dL_law_804 rfl (fun _ => ?_) (fun q => absurd rfl q)
  exact kk _ _
theorem la_15 {g : GE} {b : Nat} {xs : Nat → Int32} {Q : Option Value → Iv → Lv → Prop} {Z : ZT} (zh : LRw g b xs Q Z) (kk : ∀ iv lv, Z 1483 (LC g b) [] iv lv) : Z 809 (LC g b) [] iv0 lv0 := by
  refine z_aloadnR zh dL_law_809 rfl ?_
  refine z_callVI (As := []) zh mv_Law_80 dL_law_810 ck_X rfl (c_X_plan g  (dd := fun _ => 0) o0) ⟨(Nat.le_of_ble_eq_true rfl), (Nat.le_of_ble_eq_true rfl)⟩ rfl rfl (Nat.le_of_ble_eq_true rfl) ?_
  rintro _ iv1 lv1 ⟨rfl, hR1⟩
  refine z_aloadnR zh dL_law_813 rfl ?_
  refine z_callVI (As := []) zh mv_Law_84 dL_law_814 ck_Y rfl (c_Y_plan g  (dm := 0) hR1) ⟨(Nat.le_of_ble_eq_true rfl), (Nat.le_of_ble_eq_true rfl)⟩ rfl rfl (Nat.le_of_ble_eq_true rfl) ?_
  rintro _ iv2 lv2 rfl
  refine z_icmp_eq (tgt := 1483) zh dL_law_817 rfl (fun _ => ?_) (fun q => absurd rfl q)
  exact kk _ _
theorem la_16 {g : GE} {b : Nat} {xs : Nat → Int32} {Q : Option Value → Iv → Lv → Prop} {Z : ZT} (zh : LRw g b xs Q Z) (kk : ∀ iv lv, Z 1483 (LC g b) [] iv lv) : Z 822 (LC g b) [] iv0 lv0 := by
  refine z_aloadnR zh dL_law_822 rfl ?_
  refine z_aloadn zh dL_law_823 rfl ?_
  refine z_iloadn zh dL_law_824 rfl ?_
  refine z_iconst zh dL_law_825 ki_1 ?_
  refine z_iaddN zh dL_law_826 ?_
  refine z_sld (j := 1) zh rfl dL_law_827 (by decide) (by decide) ?_
  refine z_callVI (As := [.int (xs 1)]) zh mv_Law_85 dL_law_828 ck_X rfl (c_X_fault g (w := xs 1) (dd := fun _ => 0) o0) ⟨(Nat.le_of_ble_eq_true rfl), (Nat.le_of_ble_eq_true rfl)⟩ rfl rfl (Nat.le_of_ble_eq_true rfl) ?_
  rintro _ iv1 lv1 ⟨rfl, hR1⟩
  refine z_aloadnR zh dL_law_831 rfl ?_
  refine z_aloadn zh dL_law_832 rfl ?_
  refine z_iloadn zh dL_law_833 rfl ?_
  refine z_iconst zh dL_law_834 ki_1 ?_
  refine z_iaddN zh dL_law_835 ?_
  refine z_sld (j := 1) zh rfl dL_law_836 (by decide) (by decide) ?_
  refine z_callVI (As := [.int (xs 1)]) zh mv_Law_88 dL_law_837 ck_Y rfl (c_Y_fault g (w := xs 1) (dm := 0) hR1) ⟨(Nat.le_of_ble_eq_true rfl), (Nat.le_of_ble_eq_true rfl)⟩ rfl rfl (Nat.le_of_ble_eq_true rfl) ?_
  rintro _ iv2 lv2 rfl
  refine z_icmp_eq (tgt := 1483) zh dL_law_840 rfl (fun _ => ?_) (fun q => absurd rfl q)
  exact kk _ _
theorem la_17 {g : GE} {b : Nat} {xs : Nat → Int32} {Q : Option Value → Iv → Lv → Prop} {Z : ZT} (zh : LRw g b xs Q Z) (kk : ∀ iv lv, Z 1483 (LC g b) [] iv lv) : Z 845 (LC g b) [] iv0 lv0 := by
  refine z_aloadnR zh dL_law_845 rfl ?_
  refine z_aloadn zh dL_law_846 rfl ?_
  refine z_iloadn zh dL_law_847 rfl ?_
  refine z_iconst zh dL_law_848 ki_1 ?_
  refine z_iaddN zh dL_law_849 ?_
  refine z_sld (j := 1) zh rfl dL_law_850 (by decide) (by decide) ?_
  refine z_callVI (As := [.int (xs 1)]) zh mv_Law_89 dL_law_851 ck_X rfl (c_X_run g (x := xs 1) (dd := fun _ => 0) o0) ⟨(Nat.le_of_ble_eq_true rfl), (Nat.le_of_ble_eq_true rfl)⟩ rfl rfl (Nat.le_of_ble_eq_true rfl) ?_
  rintro _ iv1 lv1 ⟨rfl, hR1⟩
  refine z_aloadnR zh dL_law_854 rfl ?_
  refine z_aloadn zh dL_law_855 rfl ?_
  refine z_iloadn zh dL_law_856 rfl ?_
  refine z_iconst zh dL_law_857 ki_1 ?_
  refine z_iaddN zh dL_law_858 ?_
  refine z_sld (j := 1) zh rfl dL_law_859 (by decide) (by decide) ?_
  refine z_callVI (As := [.int (xs 1)]) zh mv_Law_92 dL_law_860 ck_Y rfl (c_Y_run g (x := xs 1) (dm := 0) hR1) ⟨(Nat.le_of_ble_eq_true rfl), (Nat.le_of_ble_eq_true rfl)⟩ rfl rfl (Nat.le_of_ble_eq_true rfl) ?_
  rintro _ iv2 lv2 rfl
  refine z_icmp_eq (tgt := 1483) zh dL_law_863 rfl (fun _ => ?_) (fun q => absurd rfl q)
  exact kk _ _
theorem la_18 {g : GE} {b : Nat} {xs : Nat → Int32} {Q : Option Value → Iv → Lv → Prop} {Z : ZT} (zh : LRw g b xs Q Z) (kk : ∀ iv lv, Z 1483 (LC g b) [] iv lv) : Z 868 (LC g b) [] iv0 lv0 := by
  refine z_aloadnR zh dL_law_868 rfl ?_
  refine z_aloadn zh dL_law_869 rfl ?_
  refine z_iloadn zh dL_law_870 rfl ?_
  refine z_iconst zh dL_law_871 ki_1 ?_
  refine z_iaddN zh dL_law_872 ?_
  refine z_sld (j := 1) zh rfl dL_law_873 (by decide) (by decide) ?_
  refine z_aloadn zh dL_law_874 rfl ?_
  refine z_iloadn zh dL_law_875 rfl ?_
  refine z_iconst zh dL_law_876 ki_2 ?_
  refine z_iaddN zh dL_law_877 ?_
  refine z_sld (j := 2) zh rfl dL_law_878 (by decide) (by decide) ?_
  refine z_aloadn zh dL_law_879 rfl ?_
  refine z_iloadn zh dL_law_880 rfl ?_
  refine z_iconst zh dL_law_881 ki_3 ?_
  refine z_iaddN zh dL_law_882 ?_
  refine z_sld (j := 3) zh rfl dL_law_883 (by decide) (by decide) ?_
  refine z_callVI (As := [.int (xs 1), .int (xs 2), .int (xs 3)]) zh mv_Law_93 dL_law_884 ck_X rfl (c_X_at g (x := xs 1) (y := xs 2) (w := xs 3) (dd := fun _ => 0) o0) ⟨(Nat.le_of_ble_eq_true rfl), (Nat.le_of_ble_eq_true rfl)⟩ rfl rfl (Nat.le_of_ble_eq_true rfl) ?_
  rintro _ iv1 lv1 ⟨rfl, hR1⟩
  refine z_aloadnR zh dL_law_887 rfl ?_
  refine z_aloadn zh dL_law_888 rfl ?_
  refine z_iloadn zh dL_law_889 rfl ?_
  refine z_iconst zh dL_law_890 ki_1 ?_
  refine z_iaddN zh dL_law_891 ?_
  refine z_sld (j := 1) zh rfl dL_law_892 (by decide) (by decide) ?_
  refine z_aloadn zh dL_law_893 rfl ?_
  refine z_iloadn zh dL_law_894 rfl ?_
  refine z_iconst zh dL_law_895 ki_2 ?_
  refine z_iaddN zh dL_law_896 ?_
  refine z_sld (j := 2) zh rfl dL_law_897 (by decide) (by decide) ?_
  refine z_aloadn zh dL_law_898 rfl ?_
  refine z_iloadn zh dL_law_899 rfl ?_
  refine z_iconst zh dL_law_900 ki_3 ?_
  refine z_iaddN zh dL_law_901 ?_
  refine z_sld (j := 3) zh rfl dL_law_902 (by decide) (by decide) ?_
  refine z_callVI (As := [.int (xs 1), .int (xs 2), .int (xs 3)]) zh mv_Law_96 dL_law_903 ck_Y rfl (c_Y_at g (x := xs 1) (y := xs 2) (w := xs 3) (dm := 0) hR1) ⟨(Nat.le_of_ble_eq_true rfl), (Nat.le_of_ble_eq_true rfl)⟩ rfl rfl (Nat.le_of_ble_eq_true rfl) ?_
  rintro _ iv2 lv2 rfl
  refine z_icmp_eq (tgt := 1483) zh dL_law_906 rfl (fun _ => ?_) (fun q => absurd rfl q)
  exact kk _ _
theorem la_19 {g : GE} {b : Nat} {xs : Nat → Int32} {Q : Option Value → Iv → Lv → Prop} {Z : ZT} (zh : LRw g b xs Q Z) (kk : ∀ iv lv, Z 1483 (LC g b) [] iv lv) : Z 911 (LC g b) [] iv0 lv0 := by
  refine z_aloadnR zh dL_law_911 rfl ?_
  refine z_aloadn zh dL_law_912 rfl ?_
  refine z_iloadn zh dL_law_913 rfl ?_
  refine z_iconst zh dL_law_914 ki_1 ?_
  refine z_iaddN zh dL_law_915 ?_
  refine z_sld (j := 1) zh rfl dL_law_916 (by decide) (by decide) ?_
  refine z_aloadn zh dL_law_917 rfl ?_
  refine z_iloadn zh dL_law_918 rfl ?_
  refine z_iconst zh dL_law_919 ki_2 ?_
  refine z_iaddN zh dL_law_920 ?_
  refine z_sld (j := 2) zh rfl dL_law_921 (by decide) (by decide) ?_
  refine z_aloadn zh dL_law_922 rfl ?_
  refine z_iloadn zh dL_law_923 rfl ?_
  refine z_iconst zh dL_law_924 ki_3 ?_
  refine z_iaddN zh dL_law_925 ?_
  refine z_sld (j := 3) zh rfl dL_law_926 (by decide) (by decide) ?_
  refine z_aloadn zh dL_law_927 rfl ?_
  refine z_iloadn zh dL_law_928 rfl ?_
  refine z_iconst zh dL_law_929 ki_4 ?_
  refine z_iaddN zh dL_law_930 ?_
  refine z_sld (j := 4) zh rfl dL_law_931 (by decide) (by decide) ?_
  refine z_callVI (As := [.int (xs 1), .int (xs 2), .int (xs 3), .int (xs 4)]) zh mv_Law_97 dL_law_932 ck_X rfl (c_X_lot g (x := xs 1) (y := xs 2) (i := xs 3) (w := xs 4) (dd := fun _ => 0) o0) ⟨(Nat.le_of_ble_eq_true rfl), (Nat.le_of_ble_eq_true rfl)⟩ rfl rfl (Nat.le_of_ble_eq_true rfl) ?_
  rintro _ iv1 lv1 ⟨rfl, hR1⟩
  refine z_aloadnR zh dL_law_935 rfl ?_
  refine z_aloadn zh dL_law_936 rfl ?_
  refine z_iloadn zh dL_law_937 rfl ?_
  refine z_iconst zh dL_law_938 ki_1 ?_
  refine z_iaddN zh dL_law_939 ?_
  refine z_sld (j := 1) zh rfl dL_law_940 (by decide) (by decide) ?_
  refine z_aloadn zh dL_law_941 rfl ?_
  refine z_iloadn zh dL_law_942 rfl ?_
  refine z_iconst zh dL_law_943 ki_2 ?_
  refine z_iaddN zh dL_law_944 ?_
  refine z_sld (j := 2) zh rfl dL_law_945 (by decide) (by decide) ?_
  refine z_aloadn zh dL_law_946 rfl ?_
  refine z_iloadn zh dL_law_947 rfl ?_
  refine z_iconst zh dL_law_948 ki_3 ?_
  refine z_iaddN zh dL_law_949 ?_
  refine z_sld (j := 3) zh rfl dL_law_950 (by decide) (by decide) ?_
  refine z_aloadn zh dL_law_951 rfl ?_
  refine z_iloadn zh dL_law_952 rfl ?_
  refine z_iconst zh dL_law_953 ki_4 ?_
  refine z_iaddN zh dL_law_954 ?_
  refine z_sld (j := 4) zh rfl dL_law_955 (by decide) (by decide) ?_
  refine z_callVI (As := [.int (xs 1), .int (xs 2), .int (xs 3), .int (xs 4)]) zh mv_Law_101 dL_law_956 ck_Y rfl (c_Y_lot g (x := xs 1) (y := xs 2) (i := xs 3) (w := xs 4) (dm := 0) hR1) ⟨(Nat.le_of_ble_eq_true rfl), (Nat.le_of_ble_eq_true rfl)⟩ rfl rfl (Nat.le_of_ble_eq_true rfl) ?_
  rintro _ iv2 lv2 rfl
  refine z_icmp_eq (tgt := 1483) zh dL_law_959 rfl (fun _ => ?_) (fun q => absurd rfl q)
  exact kk _ _
theorem la_20 {g : GE} {b : Nat} {xs : Nat → Int32} {Q : Option Value → Iv → Lv → Prop} {Z : ZT} (zh : LRw g b xs Q Z) (kk : ∀ iv lv, Z 1483 (LC g b) [] iv lv) : Z 964 (LC g b) [] iv0 lv0 := by
  refine z_aloadnR zh dL_law_964 rfl ?_
  refine z_aloadn zh dL_law_965 rfl ?_
  refine z_iloadn zh dL_law_966 rfl ?_
  refine z_iconst zh dL_law_967 ki_1 ?_
  refine z_iaddN zh dL_law_968 ?_
  refine z_sld (j := 1) zh rfl dL_law_969 (by decide) (by decide) ?_
  refine z_callVL (As := [.int (xs 1)]) zh mv_Law_102 dL_law_970 ck_X rfl (c_X_cash g (x := xs 1) (dd := fun _ => 0) o0) ⟨(Nat.le_of_ble_eq_true rfl), (Nat.le_of_ble_eq_true rfl)⟩ rfl rfl (Nat.le_of_ble_eq_true rfl) ?_
  rintro _ iv1 lv1 ⟨rfl, hR1⟩
  refine z_aloadnR zh dL_law_973 rfl ?_
  refine z_aloadn zh dL_law_974 rfl ?_
  refine z_iloadn zh dL_law_975 rfl ?_
  refine z_iconst zh dL_law_976 ki_1 ?_
  refine z_iaddN zh dL_law_977 ?_
  refine z_sld (j := 1) zh rfl dL_law_978 (by decide) (by decide) ?_
  refine z_callVL (As := [.int (xs 1)]) zh mv_Law_106 dL_law_979 ck_Y rfl (c_Y_cash g (x := xs 1) (dm := 0) hR1) ⟨(Nat.le_of_ble_eq_true rfl), (Nat.le_of_ble_eq_true rfl)⟩ rfl rfl (Nat.le_of_ble_eq_true rfl) ?_
  rintro _ iv2 lv2 rfl
  refine z_lcmp zh dL_law_982 ?_
  refine z_if_eq (tgt := 1483) zh dL_law_983 rfl (fun _ => ?_) (fun q => absurd (lg_self _) q)
  exact kk _ _
theorem la_21 {g : GE} {b : Nat} {xs : Nat → Int32} {Q : Option Value → Iv → Lv → Prop} {Z : ZT} (zh : LRw g b xs Q Z) (kk : ∀ iv lv, Z 1483 (LC g b) [] iv lv) : Z 988 (LC g b) [] iv0 lv0 := by
  refine z_aloadnR zh dL_law_988 rfl ?_
  refine z_aloadn zh dL_law_989 rfl ?_
  refine z_iloadn zh dL_law_990 rfl ?_
  refine z_iconst zh dL_law_991 ki_1 ?_
  refine z_iaddN zh dL_law_992 ?_
  refine z_sld (j := 1) zh rfl dL_law_993 (by decide) (by decide) ?_
  refine z_aloadn zh dL_law_994 rfl ?_
  refine z_iloadn zh dL_law_995 rfl ?_
  refine z_iconst zh dL_law_996 ki_2 ?_
  refine z_iaddN zh dL_law_997 ?_
  refine z_sld (j := 2) zh rfl dL_law_998 (by decide) (by decide) ?_
  refine z_callVI (As := [.int (xs 1), .int (xs 2)]) zh mv_Law_107 dL_law_999 ck_X rfl (c_X_deal g (x := xs 1) (w := xs 2) (dd := fun _ => 0) o0) ⟨(Nat.le_of_ble_eq_true rfl), (Nat.le_of_ble_eq_true rfl)⟩ rfl rfl (Nat.le_of_ble_eq_true rfl) ?_
  rintro _ iv1 lv1 ⟨rfl, hR1⟩
  refine z_aloadnR zh dL_law_1002 rfl ?_
  refine z_aloadn zh dL_law_1003 rfl ?_
  refine z_iloadn zh dL_law_1004 rfl ?_
  refine z_iconst zh dL_law_1005 ki_1 ?_
  refine z_iaddN zh dL_law_1006 ?_
  refine z_sld (j := 1) zh rfl dL_law_1007 (by decide) (by decide) ?_
  refine z_aloadn zh dL_law_1008 rfl ?_
  refine z_iloadn zh dL_law_1009 rfl ?_
  refine z_iconst zh dL_law_1010 ki_2 ?_
  refine z_iaddN zh dL_law_1011 ?_
  refine z_sld (j := 2) zh rfl dL_law_1012 (by decide) (by decide) ?_
  refine z_callVI (As := [.int (xs 1), .int (xs 2)]) zh mv_Law_111 dL_law_1013 ck_Y rfl (c_Y_deal g (x := xs 1) (w := xs 2) (dm := 0) hR1) ⟨(Nat.le_of_ble_eq_true rfl), (Nat.le_of_ble_eq_true rfl)⟩ rfl rfl (Nat.le_of_ble_eq_true rfl) ?_
  rintro _ iv2 lv2 rfl
  refine z_icmp_eq (tgt := 1483) zh dL_law_1016 rfl (fun _ => ?_) (fun q => absurd rfl q)
  exact kk _ _
theorem la_22 {g : GE} {b : Nat} {xs : Nat → Int32} {Q : Option Value → Iv → Lv → Prop} {Z : ZT} (zh : LRw g b xs Q Z) (kk : ∀ iv lv, Z 1483 (LC g b) [] iv lv) : Z 1021 (LC g b) [] iv0 lv0 := by
  refine z_aloadnR zh dL_law_1021 rfl ?_
  refine z_aloadn zh dL_law_1022 rfl ?_
  refine z_iloadn zh dL_law_1023 rfl ?_
  refine z_iconst zh dL_law_1024 ki_1 ?_
  refine z_iaddN zh dL_law_1025 ?_
  refine z_sld (j := 1) zh rfl dL_law_1026 (by decide) (by decide) ?_
  refine z_aloadn zh dL_law_1027 rfl ?_
  refine z_iloadn zh dL_law_1028 rfl ?_
  refine z_iconst zh dL_law_1029 ki_2 ?_
  refine z_iaddN zh dL_law_1030 ?_
  refine z_sld (j := 2) zh rfl dL_law_1031 (by decide) (by decide) ?_
  refine z_callVI (As := [.int (xs 1), .int (xs 2)]) zh mv_Law_112 dL_law_1032 ck_X rfl (c_X_notice g (x := xs 1) (w := xs 2) (dd := fun _ => 0) o0) ⟨(Nat.le_of_ble_eq_true rfl), (Nat.le_of_ble_eq_true rfl)⟩ rfl rfl (Nat.le_of_ble_eq_true rfl) ?_
  rintro _ iv1 lv1 ⟨rfl, hR1⟩
  refine z_aloadnR zh dL_law_1035 rfl ?_
  refine z_aloadn zh dL_law_1036 rfl ?_
  refine z_iloadn zh dL_law_1037 rfl ?_
  refine z_iconst zh dL_law_1038 ki_1 ?_
  refine z_iaddN zh dL_law_1039 ?_
  refine z_sld (j := 1) zh rfl dL_law_1040 (by decide) (by decide) ?_
  refine z_aloadn zh dL_law_1041 rfl ?_
  refine z_iloadn zh dL_law_1042 rfl ?_
  refine z_iconst zh dL_law_1043 ki_2 ?_
  refine z_iaddN zh dL_law_1044 ?_
  refine z_sld (j := 2) zh rfl dL_law_1045 (by decide) (by decide) ?_
  refine z_callVI (As := [.int (xs 1), .int (xs 2)]) zh mv_Law_115 dL_law_1046 ck_Y rfl (c_Y_notice g (x := xs 1) (w := xs 2) (dm := 0) hR1) ⟨(Nat.le_of_ble_eq_true rfl), (Nat.le_of_ble_eq_true rfl)⟩ rfl rfl (Nat.le_of_ble_eq_true rfl) ?_
  rintro _ iv2 lv2 rfl
  refine z_icmp_eq (tgt := 1483) zh dL_law_1049 rfl (fun _ => ?_) (fun q => absurd rfl q)
  exact kk _ _
theorem la_23 {g : GE} {b : Nat} {xs : Nat → Int32} {Q : Option Value → Iv → Lv → Prop} {Z : ZT} (zh : LRw g b xs Q Z) (kk : ∀ iv lv, Z 1483 (LC g b) [] iv lv) : Z 1054 (LC g b) [] iv0 lv0 := by
  refine z_aloadnR zh dL_law_1054 rfl ?_
  refine z_aloadn zh dL_law_1055 rfl ?_
  refine z_iloadn zh dL_law_1056 rfl ?_
  refine z_iconst zh dL_law_1057 ki_1 ?_
  refine z_iaddN zh dL_law_1058 ?_
  refine z_sld (j := 1) zh rfl dL_law_1059 (by decide) (by decide) ?_
  refine z_aloadn zh dL_law_1060 rfl ?_
  refine z_iloadn zh dL_law_1061 rfl ?_
  refine z_iconst zh dL_law_1062 ki_2 ?_
  refine z_iaddN zh dL_law_1063 ?_
  refine z_sld (j := 2) zh rfl dL_law_1064 (by decide) (by decide) ?_
  refine z_callVI (As := [.int (xs 1), .int (xs 2)]) zh mv_Law_116 dL_law_1065 ck_X rfl (c_X_issue g (x := xs 1) (w := xs 2) (dd := fun _ => 0) o0) ⟨(Nat.le_of_ble_eq_true rfl), (Nat.le_of_ble_eq_true rfl)⟩ rfl rfl (Nat.le_of_ble_eq_true rfl) ?_
  rintro _ iv1 lv1 ⟨rfl, hR1⟩
  refine z_aloadnR zh dL_law_1068 rfl ?_
  refine z_aloadn zh dL_law_1069 rfl ?_
  refine z_iloadn zh dL_law_1070 rfl ?_
  refine z_iconst zh dL_law_1071 ki_1 ?_
  refine z_iaddN zh dL_law_1072 ?_
  refine z_sld (j := 1) zh rfl dL_law_1073 (by decide) (by decide) ?_
  refine z_aloadn zh dL_law_1074 rfl ?_
  refine z_iloadn zh dL_law_1075 rfl ?_
  refine z_iconst zh dL_law_1076 ki_2 ?_
  refine z_iaddN zh dL_law_1077 ?_
  refine z_sld (j := 2) zh rfl dL_law_1078 (by decide) (by decide) ?_
  refine z_callVI (As := [.int (xs 1), .int (xs 2)]) zh mv_Law_119 dL_law_1079 ck_Y rfl (c_Y_issue g (x := xs 1) (w := xs 2) (dm := 0) hR1) ⟨(Nat.le_of_ble_eq_true rfl), (Nat.le_of_ble_eq_true rfl)⟩ rfl rfl (Nat.le_of_ble_eq_true rfl) ?_
  rintro _ iv2 lv2 rfl
  refine z_icmp_eq (tgt := 1483) zh dL_law_1082 rfl (fun _ => ?_) (fun q => absurd rfl q)
  exact kk _ _
theorem la_24 {g : GE} {b : Nat} {xs : Nat → Int32} {Q : Option Value → Iv → Lv → Prop} {Z : ZT} (zh : LRw g b xs Q Z) (kk : ∀ iv lv, Z 1483 (LC g b) [] iv lv) : Z 1087 (LC g b) [] iv0 lv0 := by
  refine z_aloadnR zh dL_law_1087 rfl ?_
  refine z_aloadn zh dL_law_1088 rfl ?_
  refine z_iloadn zh dL_law_1089 rfl ?_
  refine z_iconst zh dL_law_1090 ki_1 ?_
  refine z_iaddN zh dL_law_1091 ?_
  refine z_sld (j := 1) zh rfl dL_law_1092 (by decide) (by decide) ?_
  refine z_aloadn zh dL_law_1093 rfl ?_
  refine z_iloadn zh dL_law_1094 rfl ?_
  refine z_iconst zh dL_law_1095 ki_2 ?_
  refine z_iaddN zh dL_law_1096 ?_
  refine z_sld (j := 2) zh rfl dL_law_1097 (by decide) (by decide) ?_
  refine z_callVI (As := [.int (xs 1), .int (xs 2)]) zh mv_Law_120 dL_law_1098 ck_X rfl (c_X_book g (x := xs 1) (w := xs 2) (dd := fun _ => 0) o0) ⟨(Nat.le_of_ble_eq_true rfl), (Nat.le_of_ble_eq_true rfl)⟩ rfl rfl (Nat.le_of_ble_eq_true rfl) ?_
  rintro _ iv1 lv1 ⟨rfl, hR1⟩
  refine z_aloadnR zh dL_law_1101 rfl ?_
  refine z_aloadn zh dL_law_1102 rfl ?_
  refine z_iloadn zh dL_law_1103 rfl ?_
  refine z_iconst zh dL_law_1104 ki_1 ?_
  refine z_iaddN zh dL_law_1105 ?_
  refine z_sld (j := 1) zh rfl dL_law_1106 (by decide) (by decide) ?_
  refine z_aloadn zh dL_law_1107 rfl ?_
  refine z_iloadn zh dL_law_1108 rfl ?_
  refine z_iconst zh dL_law_1109 ki_2 ?_
  refine z_iaddN zh dL_law_1110 ?_
  refine z_sld (j := 2) zh rfl dL_law_1111 (by decide) (by decide) ?_
  refine z_callVI (As := [.int (xs 1), .int (xs 2)]) zh mv_Law_123 dL_law_1112 ck_Y rfl (c_Y_book g (x := xs 1) (w := xs 2) (dm := 0) hR1) ⟨(Nat.le_of_ble_eq_true rfl), (Nat.le_of_ble_eq_true rfl)⟩ rfl rfl (Nat.le_of_ble_eq_true rfl) ?_
  rintro _ iv2 lv2 rfl
  refine z_icmp_eq (tgt := 1483) zh dL_law_1115 rfl (fun _ => ?_) (fun q => absurd rfl q)
  exact kk _ _
theorem la_25 {g : GE} {b : Nat} {xs : Nat → Int32} {Q : Option Value → Iv → Lv → Prop} {Z : ZT} (zh : LRw g b xs Q Z) (kk : ∀ iv lv, Z 1483 (LC g b) [] iv lv) : Z 1120 (LC g b) [] iv0 lv0 := by
  refine z_aloadnR zh dL_law_1120 rfl ?_
  refine z_aloadn zh dL_law_1121 rfl ?_
  refine z_iloadn zh dL_law_1122 rfl ?_
  refine z_iconst zh dL_law_1123 ki_1 ?_
  refine z_iaddN zh dL_law_1124 ?_
  refine z_sld (j := 1) zh rfl dL_law_1125 (by decide) (by decide) ?_
  refine z_aloadn zh dL_law_1126 rfl ?_
  refine z_iloadn zh dL_law_1127 rfl ?_
  refine z_iconst zh dL_law_1128 ki_2 ?_
  refine z_iaddN zh dL_law_1129 ?_
  refine z_sld (j := 2) zh rfl dL_law_1130 (by decide) (by decide) ?_
  refine z_callVL (As := [.int (xs 1), .int (xs 2)]) zh mv_Law_124 dL_law_1131 ck_X rfl (c_X_margin g (x := xs 1) (w := xs 2) (dd := fun _ => 0) o0) ⟨(Nat.le_of_ble_eq_true rfl), (Nat.le_of_ble_eq_true rfl)⟩ rfl rfl (Nat.le_of_ble_eq_true rfl) ?_
  rintro _ iv1 lv1 ⟨rfl, hR1⟩
  refine z_aloadnR zh dL_law_1134 rfl ?_
  refine z_aloadn zh dL_law_1135 rfl ?_
  refine z_iloadn zh dL_law_1136 rfl ?_
  refine z_iconst zh dL_law_1137 ki_1 ?_
  refine z_iaddN zh dL_law_1138 ?_
  refine z_sld (j := 1) zh rfl dL_law_1139 (by decide) (by decide) ?_
  refine z_aloadn zh dL_law_1140 rfl ?_
  refine z_iloadn zh dL_law_1141 rfl ?_
  refine z_iconst zh dL_law_1142 ki_2 ?_
  refine z_iaddN zh dL_law_1143 ?_
  refine z_sld (j := 2) zh rfl dL_law_1144 (by decide) (by decide) ?_
  refine z_callVL (As := [.int (xs 1), .int (xs 2)]) zh mv_Law_128 dL_law_1145 ck_Y rfl (c_Y_margin g (x := xs 1) (w := xs 2) (dm := 0) hR1) ⟨(Nat.le_of_ble_eq_true rfl), (Nat.le_of_ble_eq_true rfl)⟩ rfl rfl (Nat.le_of_ble_eq_true rfl) ?_
  rintro _ iv2 lv2 rfl
  refine z_lcmp zh dL_law_1148 ?_
  refine z_if_eq (tgt := 1483) zh dL_law_1149 rfl (fun _ => ?_) (fun q => absurd (lg_self _) q)
  exact kk _ _
theorem la_26 {g : GE} {b : Nat} {xs : Nat → Int32} {Q : Option Value → Iv → Lv → Prop} {Z : ZT} (zh : LRw g b xs Q Z) (kk : ∀ iv lv, Z 1483 (LC g b) [] iv lv) : Z 1154 (LC g b) [] iv0 lv0 := by
  refine z_aloadnR zh dL_law_1154 rfl ?_
  refine z_aloadn zh dL_law_1155 rfl ?_
  refine z_iloadn zh dL_law_1156 rfl ?_
  refine z_iconst zh dL_law_1157 ki_1 ?_
  refine z_iaddN zh dL_law_1158 ?_
  refine z_sld (j := 1) zh rfl dL_law_1159 (by decide) (by decide) ?_
  refine z_callVI (As := [.int (xs 1)]) zh mv_Law_129 dL_law_1160 ck_X rfl (c_X_stress g (x := xs 1) (dd := fun _ => 0) o0) ⟨(Nat.le_of_ble_eq_true rfl), (Nat.le_of_ble_eq_true rfl)⟩ rfl rfl (Nat.le_of_ble_eq_true rfl) ?_
  rintro _ iv1 lv1 ⟨rfl, hR1⟩
  refine z_aloadnR zh dL_law_1163 rfl ?_
  refine z_aloadn zh dL_law_1164 rfl ?_
  refine z_iloadn zh dL_law_1165 rfl ?_
  refine z_iconst zh dL_law_1166 ki_1 ?_
  refine z_iaddN zh dL_law_1167 ?_
  refine z_sld (j := 1) zh rfl dL_law_1168 (by decide) (by decide) ?_
  refine z_callVI (As := [.int (xs 1)]) zh mv_Law_132 dL_law_1169 ck_Y rfl (c_Y_stress g (x := xs 1) (dm := 0) hR1) ⟨(Nat.le_of_ble_eq_true rfl), (Nat.le_of_ble_eq_true rfl)⟩ rfl rfl (Nat.le_of_ble_eq_true rfl) ?_
  rintro _ iv2 lv2 rfl
  refine z_icmp_eq (tgt := 1483) zh dL_law_1172 rfl (fun _ => ?_) (fun q => absurd rfl q)
  exact kk _ _
theorem la_27 {g : GE} {b : Nat} {xs : Nat → Int32} {Q : Option Value → Iv → Lv → Prop} {Z : ZT} (zh : LRw g b xs Q Z) (kk : ∀ iv lv, Z 1483 (LC g b) [] iv lv) : Z 1177 (LC g b) [] iv0 lv0 := by
  refine z_aloadnR zh dL_law_1177 rfl ?_
  refine z_aloadn zh dL_law_1178 rfl ?_
  refine z_iloadn zh dL_law_1179 rfl ?_
  refine z_iconst zh dL_law_1180 ki_1 ?_
  refine z_iaddN zh dL_law_1181 ?_
  refine z_sld (j := 1) zh rfl dL_law_1182 (by decide) (by decide) ?_
  refine z_aloadn zh dL_law_1183 rfl ?_
  refine z_iloadn zh dL_law_1184 rfl ?_
  refine z_iconst zh dL_law_1185 ki_2 ?_
  refine z_iaddN zh dL_law_1186 ?_
  refine z_sld (j := 2) zh rfl dL_law_1187 (by decide) (by decide) ?_
  refine z_aloadn zh dL_law_1188 rfl ?_
  refine z_iloadn zh dL_law_1189 rfl ?_
  refine z_iconst zh dL_law_1190 ki_3 ?_
  refine z_iaddN zh dL_law_1191 ?_
  refine z_sld (j := 3) zh rfl dL_law_1192 (by decide) (by decide) ?_
  refine z_callVI (As := [.int (xs 1), .int (xs 2), .int (xs 3)]) zh mv_Law_133 dL_law_1193 ck_X rfl (c_X_queue g (x := xs 1) (i := xs 2) (w := xs 3) (dd := fun _ => 0) o0) ⟨(Nat.le_of_ble_eq_true rfl), (Nat.le_of_ble_eq_true rfl)⟩ rfl rfl (Nat.le_of_ble_eq_true rfl) ?_
  rintro _ iv1 lv1 ⟨rfl, hR1⟩
  refine z_aloadnR zh dL_law_1196 rfl ?_
  refine z_aloadn zh dL_law_1197 rfl ?_
  refine z_iloadn zh dL_law_1198 rfl ?_
  refine z_iconst zh dL_law_1199 ki_1 ?_
  refine z_iaddN zh dL_law_1200 ?_
  refine z_sld (j := 1) zh rfl dL_law_1201 (by decide) (by decide) ?_
  refine z_aloadn zh dL_law_1202 rfl ?_
  refine z_iloadn zh dL_law_1203 rfl ?_
  refine z_iconst zh dL_law_1204 ki_2 ?_
  refine z_iaddN zh dL_law_1205 ?_
  refine z_sld (j := 2) zh rfl dL_law_1206 (by decide) (by decide) ?_
  refine z_aloadn zh dL_law_1207 rfl ?_
  refine z_iloadn zh dL_law_1208 rfl ?_
  refine z_iconst zh dL_law_1209 ki_3 ?_
  refine z_iaddN zh dL_law_1210 ?_
  refine z_sld (j := 3) zh rfl dL_law_1211 (by decide) (by decide) ?_
  refine z_callVI (As := [.int (xs 1), .int (xs 2), .int (xs 3)]) zh mv_Law_136 dL_law_1212 ck_Y rfl (c_Y_queue g (x := xs 1) (i := xs 2) (w := xs 3) (dm := 0) hR1) ⟨(Nat.le_of_ble_eq_true rfl), (Nat.le_of_ble_eq_true rfl)⟩ rfl rfl (Nat.le_of_ble_eq_true rfl) ?_
  rintro _ iv2 lv2 rfl
  refine z_icmp_eq (tgt := 1483) zh dL_law_1215 rfl (fun _ => ?_) (fun q => absurd rfl q)
  exact kk _ _
theorem la_28 {g : GE} {b : Nat} {xs : Nat → Int32} {Q : Option Value → Iv → Lv → Prop} {Z : ZT} (zh : LRw g b xs Q Z) (kk : ∀ iv lv, Z 1483 (LC g b) [] iv lv) : Z 1220 (LC g b) [] iv0 lv0 := by
  refine z_aloadnR zh dL_law_1220 rfl ?_
  refine z_aloadn zh dL_law_1221 rfl ?_
  refine z_iloadn zh dL_law_1222 rfl ?_
  refine z_iconst zh dL_law_1223 ki_1 ?_
  refine z_iaddN zh dL_law_1224 ?_
  refine z_sld (j := 1) zh rfl dL_law_1225 (by decide) (by decide) ?_
  refine z_aloadn zh dL_law_1226 rfl ?_
  refine z_iloadn zh dL_law_1227 rfl ?_
  refine z_iconst zh dL_law_1228 ki_2 ?_
  refine z_iaddN zh dL_law_1229 ?_
  refine z_sld (j := 2) zh rfl dL_law_1230 (by decide) (by decide) ?_
  refine z_callVI (As := [.int (xs 1), .int (xs 2)]) zh mv_Law_137 dL_law_1231 ck_X rfl (c_X_aged g (x := xs 1) (w := xs 2) (dd := fun _ => 0) o0) ⟨(Nat.le_of_ble_eq_true rfl), (Nat.le_of_ble_eq_true rfl)⟩ rfl rfl (Nat.le_of_ble_eq_true rfl) ?_
  rintro _ iv1 lv1 ⟨rfl, hR1⟩
  refine z_aloadnR zh dL_law_1234 rfl ?_
  refine z_aloadn zh dL_law_1235 rfl ?_
  refine z_iloadn zh dL_law_1236 rfl ?_
  refine z_iconst zh dL_law_1237 ki_1 ?_
  refine z_iaddN zh dL_law_1238 ?_
  refine z_sld (j := 1) zh rfl dL_law_1239 (by decide) (by decide) ?_
  refine z_aloadn zh dL_law_1240 rfl ?_
  refine z_iloadn zh dL_law_1241 rfl ?_
  refine z_iconst zh dL_law_1242 ki_2 ?_
  refine z_iaddN zh dL_law_1243 ?_
  refine z_sld (j := 2) zh rfl dL_law_1244 (by decide) (by decide) ?_
  refine z_callVI (As := [.int (xs 1), .int (xs 2)]) zh mv_Law_140 dL_law_1245 ck_Y rfl (c_Y_aged g (x := xs 1) (w := xs 2) (dm := 0) hR1) ⟨(Nat.le_of_ble_eq_true rfl), (Nat.le_of_ble_eq_true rfl)⟩ rfl rfl (Nat.le_of_ble_eq_true rfl) ?_
  rintro _ iv2 lv2 rfl
  refine z_icmp_eq (tgt := 1483) zh dL_law_1248 rfl (fun _ => ?_) (fun q => absurd rfl q)
  exact kk _ _
theorem la_29 {g : GE} {b : Nat} {xs : Nat → Int32} {Q : Option Value → Iv → Lv → Prop} {Z : ZT} (zh : LRw g b xs Q Z) (kk : ∀ iv lv, Z 1483 (LC g b) [] iv lv) : Z 1253 (LC g b) [] iv0 lv0 := by
  refine z_aloadnR zh dL_law_1253 rfl ?_
  refine z_aloadn zh dL_law_1254 rfl ?_
  refine z_iloadn zh dL_law_1255 rfl ?_
  refine z_iconst zh dL_law_1256 ki_1 ?_
  refine z_iaddN zh dL_law_1257 ?_
  refine z_sld (j := 1) zh rfl dL_law_1258 (by decide) (by decide) ?_
  refine z_aloadn zh dL_law_1259 rfl ?_
  refine z_iloadn zh dL_law_1260 rfl ?_
  refine z_iconst zh dL_law_1261 ki_2 ?_
  refine z_iaddN zh dL_law_1262 ?_
  refine z_sld (j := 2) zh rfl dL_law_1263 (by decide) (by decide) ?_
  refine z_aloadn zh dL_law_1264 rfl ?_
  refine z_iloadn zh dL_law_1265 rfl ?_
  refine z_iconst zh dL_law_1266 ki_3 ?_
  refine z_iaddN zh dL_law_1267 ?_
  refine z_sld (j := 3) zh rfl dL_law_1268 (by decide) (by decide) ?_
  refine z_if_eq (tgt := 1276) zh dL_law_1269 rfl (fun hb1 => ?_) (fun hb1 => ?_)
  · refine z_iconst zh dL_law_1276 ki_0 ?_
    refine z_callVI (As := [.int (xs 1), .int (xs 2), .int (nI 0)]) zh mv_Law_141 dL_law_1277 ck_X rfl (c_X_statement g (x := xs 1) (w := xs 2) (z := nI 0) (dd := fun _ => 0) o0) ⟨(Nat.le_of_ble_eq_true rfl), (Nat.le_of_ble_eq_true rfl)⟩ rfl rfl (Nat.le_of_ble_eq_true rfl) ?_
    rintro _ iv1 lv1 ⟨rfl, hR1⟩
    refine z_aloadnR zh dL_law_1280 rfl ?_
    refine z_aloadn zh dL_law_1281 rfl ?_
    refine z_iloadn zh dL_law_1282 rfl ?_
    refine z_iconst zh dL_law_1283 ki_1 ?_
    refine z_iaddN zh dL_law_1284 ?_
    refine z_sld (j := 1) zh rfl dL_law_1285 (by decide) (by decide) ?_
    refine z_aloadn zh dL_law_1286 rfl ?_
    refine z_iloadn zh dL_law_1287 rfl ?_
    refine z_iconst zh dL_law_1288 ki_2 ?_
    refine z_iaddN zh dL_law_1289 ?_
    refine z_sld (j := 2) zh rfl dL_law_1290 (by decide) (by decide) ?_
    refine z_aloadn zh dL_law_1291 rfl ?_
    refine z_iloadn zh dL_law_1292 rfl ?_
    refine z_iconst zh dL_law_1293 ki_3 ?_
    refine z_iaddN zh dL_law_1294 ?_
    refine z_sld (j := 3) zh rfl dL_law_1295 (by decide) (by decide) ?_
    refine z_if_eq (tgt := 1303) zh dL_law_1296 rfl (fun _ => ?_) (fun q => absurd hb1 q)
    refine z_iconst zh dL_law_1303 ki_0 ?_
    refine z_callVI (As := [.int (xs 1), .int (xs 2), .int (nI 0)]) zh mv_Law_145 dL_law_1304 ck_Y rfl (c_Y_statement g (x := xs 1) (w := xs 2) (z := nI 0) (dm := 0) hR1) ⟨(Nat.le_of_ble_eq_true rfl), (Nat.le_of_ble_eq_true rfl)⟩ rfl rfl (Nat.le_of_ble_eq_true rfl) ?_
    rintro _ iv2 lv2 rfl
    refine z_icmp_eq (tgt := 1483) zh dL_law_1307 rfl (fun _ => ?_) (fun q => absurd rfl q)
    exact kk _ _
  · refine z_iconst zh dL_law_1272 ki_1 ?_
    refine z_goto (tgt := 1277) zh dL_law_1273 rfl ?_
    refine z_callVI (As := [.int (xs 1), .int (xs 2), .int (nI 1)]) zh mv_Law_141 dL_law_1277 ck_X rfl (c_X_statement g (x := xs 1) (w := xs 2) (z := nI 1) (dd := fun _ => 0) o0) ⟨(Nat.le_of_ble_eq_true rfl), (Nat.le_of_ble_eq_true rfl)⟩ rfl rfl (Nat.le_of_ble_eq_true rfl) ?_
    rintro _ iv1 lv1 ⟨rfl, hR1⟩
    refine z_aloadnR zh dL_law_1280 rfl ?_
    refine z_aloadn zh dL_law_1281 rfl ?_
    refine z_iloadn zh dL_law_1282 rfl ?_
    refine z_iconst zh dL_law_1283 ki_1 ?_
    refine z_iaddN zh dL_law_1284 ?_
    refine z_sld (j := 1) zh rfl dL_law_1285 (by decide) (by decide) ?_
    refine z_aloadn zh dL_law_1286 rfl ?_
    refine z_iloadn zh dL_law_1287 rfl ?_
    refine z_iconst zh dL_law_1288 ki_2 ?_
    refine z_iaddN zh dL_law_1289 ?_
    refine z_sld (j := 2) zh rfl dL_law_1290 (by decide) (by decide) ?_
    refine z_aloadn zh dL_law_1291 rfl ?_
    refine z_iloadn zh dL_law_1292 rfl ?_
    refine z_iconst zh dL_law_1293 ki_3 ?_
    refine z_iaddN zh dL_law_1294 ?_
    refine z_sld (j := 3) zh rfl dL_law_1295 (by decide) (by decide) ?_
    refine z_if_eq (tgt := 1303) zh dL_law_1296 rfl (fun q => absurd q hb1) (fun _ => ?_)
    refine z_iconst zh dL_law_1299 ki_1 ?_
    refine z_goto (tgt := 1304) zh dL_law_1300 rfl ?_
    refine z_callVI (As := [.int (xs 1), .int (xs 2), .int (nI 1)]) zh mv_Law_145 dL_law_1304 ck_Y rfl (c_Y_statement g (x := xs 1) (w := xs 2) (z := nI 1) (dm := 0) hR1) ⟨(Nat.le_of_ble_eq_true rfl), (Nat.le_of_ble_eq_true rfl)⟩ rfl rfl (Nat.le_of_ble_eq_true rfl) ?_
    rintro _ iv2 lv2 rfl
    refine z_icmp_eq (tgt := 1483) zh dL_law_1307 rfl (fun _ => ?_) (fun q => absurd rfl q)
    exact kk _ _
theorem la_30 {g : GE} {b : Nat} {xs : Nat → Int32} {Q : Option Value → Iv → Lv → Prop} {Z : ZT} (zh : LRw g b xs Q Z) (kk : ∀ iv lv, Z 1483 (LC g b) [] iv lv) : Z 1312 (LC g b) [] iv0 lv0 := by
  refine z_aloadnR zh dL_law_1312 rfl ?_
  refine z_aloadn zh dL_law_1313 rfl ?_
  refine z_iloadn zh dL_law_1314 rfl ?_
  refine z_iconst zh dL_law_1315 ki_1 ?_
  refine z_iaddN zh dL_law_1316 ?_
  refine z_sld (j := 1) zh rfl dL_law_1317 (by decide) (by decide) ?_
  refine z_aloadn zh dL_law_1318 rfl ?_
  refine z_iloadn zh dL_law_1319 rfl ?_
  refine z_iconst zh dL_law_1320 ki_2 ?_
  refine z_iaddN zh dL_law_1321 ?_
  refine z_sld (j := 2) zh rfl dL_law_1322 (by decide) (by decide) ?_
  refine z_aloadn zh dL_law_1323 rfl ?_
  refine z_iloadn zh dL_law_1324 rfl ?_
  refine z_iconst zh dL_law_1325 ki_3 ?_
  refine z_iaddN zh dL_law_1326 ?_
  refine z_sld (j := 3) zh rfl dL_law_1327 (by decide) (by decide) ?_
  refine z_callVI (As := [.int (xs 1), .int (xs 2), .int (xs 3)]) zh mv_Law_146 dL_law_1328 ck_X rfl (c_X_tomorrow g (x := xs 1) (y := xs 2) (w := xs 3) (dd := fun _ => 0) o0) ⟨(Nat.le_of_ble_eq_true rfl), (Nat.le_of_ble_eq_true rfl)⟩ rfl rfl (Nat.le_of_ble_eq_true rfl) ?_
  rintro _ iv1 lv1 ⟨rfl, hR1⟩
  refine z_aloadnR zh dL_law_1331 rfl ?_
  refine z_aloadn zh dL_law_1332 rfl ?_
  refine z_iloadn zh dL_law_1333 rfl ?_
  refine z_iconst zh dL_law_1334 ki_1 ?_
  refine z_iaddN zh dL_law_1335 ?_
  refine z_sld (j := 1) zh rfl dL_law_1336 (by decide) (by decide) ?_
  refine z_aloadn zh dL_law_1337 rfl ?_
  refine z_iloadn zh dL_law_1338 rfl ?_
  refine z_iconst zh dL_law_1339 ki_2 ?_
  refine z_iaddN zh dL_law_1340 ?_
  refine z_sld (j := 2) zh rfl dL_law_1341 (by decide) (by decide) ?_
  refine z_aloadn zh dL_law_1342 rfl ?_
  refine z_iloadn zh dL_law_1343 rfl ?_
  refine z_iconst zh dL_law_1344 ki_3 ?_
  refine z_iaddN zh dL_law_1345 ?_
  refine z_sld (j := 3) zh rfl dL_law_1346 (by decide) (by decide) ?_
  refine z_callVI (As := [.int (xs 1), .int (xs 2), .int (xs 3)]) zh mv_Law_149 dL_law_1347 ck_Y rfl (c_Y_tomorrow g (x := xs 1) (y := xs 2) (w := xs 3) (dm := 0) hR1) ⟨(Nat.le_of_ble_eq_true rfl), (Nat.le_of_ble_eq_true rfl)⟩ rfl rfl (Nat.le_of_ble_eq_true rfl) ?_
  rintro _ iv2 lv2 rfl
  refine z_icmp_eq (tgt := 1483) zh dL_law_1350 rfl (fun _ => ?_) (fun q => absurd rfl q)
  exact kk _ _
theorem la_31 {g : GE} {b : Nat} {xs : Nat → Int32} {Q : Option Value → Iv → Lv → Prop} {Z : ZT} (zh : LRw g b xs Q Z) (kk : ∀ iv lv, Z 1483 (LC g b) [] iv lv) : Z 1355 (LC g b) [] iv0 lv0 := by
  refine z_aloadnR zh dL_law_1355 rfl ?_
  refine z_aloadn zh dL_law_1356 rfl ?_
  refine z_iloadn zh dL_law_1357 rfl ?_
  refine z_iconst zh dL_law_1358 ki_1 ?_
  refine z_iaddN zh dL_law_1359 ?_
  refine z_sld (j := 1) zh rfl dL_law_1360 (by decide) (by decide) ?_
  refine z_aloadn zh dL_law_1361 rfl ?_
  refine z_iloadn zh dL_law_1362 rfl ?_
  refine z_iconst zh dL_law_1363 ki_2 ?_
  refine z_iaddN zh dL_law_1364 ?_
  refine z_sld (j := 2) zh rfl dL_law_1365 (by decide) (by decide) ?_
  refine z_callVI (As := [.int (xs 1), .int (xs 2)]) zh mv_Law_150 dL_law_1366 ck_X rfl (c_X_ahead g (x := xs 1) (y := xs 2) (dd := fun _ => 0) o0) ⟨(Nat.le_of_ble_eq_true rfl), (Nat.le_of_ble_eq_true rfl)⟩ rfl rfl (Nat.le_of_ble_eq_true rfl) ?_
  rintro _ iv1 lv1 ⟨rfl, hR1⟩
  refine z_aloadnR zh dL_law_1369 rfl ?_
  refine z_aloadn zh dL_law_1370 rfl ?_
  refine z_iloadn zh dL_law_1371 rfl ?_
  refine z_iconst zh dL_law_1372 ki_1 ?_
  refine z_iaddN zh dL_law_1373 ?_
  refine z_sld (j := 1) zh rfl dL_law_1374 (by decide) (by decide) ?_
  refine z_aloadn zh dL_law_1375 rfl ?_
  refine z_iloadn zh dL_law_1376 rfl ?_
  refine z_iconst zh dL_law_1377 ki_2 ?_
  refine z_iaddN zh dL_law_1378 ?_
  refine z_sld (j := 2) zh rfl dL_law_1379 (by decide) (by decide) ?_
  refine z_callVI (As := [.int (xs 1), .int (xs 2)]) zh mv_Law_153 dL_law_1380 ck_Y rfl (c_Y_ahead g (x := xs 1) (y := xs 2) (dm := 0) hR1) ⟨(Nat.le_of_ble_eq_true rfl), (Nat.le_of_ble_eq_true rfl)⟩ rfl rfl (Nat.le_of_ble_eq_true rfl) ?_
  rintro _ iv2 lv2 rfl
  refine z_icmp_eq (tgt := 1483) zh dL_law_1383 rfl (fun _ => ?_) (fun q => absurd rfl q)
  exact kk _ _
theorem la_32 {g : GE} {b : Nat} {xs : Nat → Int32} {Q : Option Value → Iv → Lv → Prop} {Z : ZT} (zh : LRw g b xs Q Z) (kk : ∀ iv lv, Z 1483 (LC g b) [] iv lv) : Z 1388 (LC g b) [] iv0 lv0 := by
  refine z_aloadnR zh dL_law_1388 rfl ?_
  refine z_aloadn zh dL_law_1389 rfl ?_
  refine z_iloadn zh dL_law_1390 rfl ?_
  refine z_iconst zh dL_law_1391 ki_1 ?_
  refine z_iaddN zh dL_law_1392 ?_
  refine z_sld (j := 1) zh rfl dL_law_1393 (by decide) (by decide) ?_
  refine z_aloadn zh dL_law_1394 rfl ?_
  refine z_iloadn zh dL_law_1395 rfl ?_
  refine z_iconst zh dL_law_1396 ki_2 ?_
  refine z_iaddN zh dL_law_1397 ?_
  refine z_sld (j := 2) zh rfl dL_law_1398 (by decide) (by decide) ?_
  refine z_callVI (As := [.int (xs 1), .int (xs 2)]) zh mv_Law_154 dL_law_1399 ck_X rfl (c_X_reached g (x := xs 1) (w := xs 2) (dd := fun _ => 0) o0) ⟨(Nat.le_of_ble_eq_true rfl), (Nat.le_of_ble_eq_true rfl)⟩ rfl rfl (Nat.le_of_ble_eq_true rfl) ?_
  rintro _ iv1 lv1 ⟨rfl, hR1⟩
  refine z_aloadnR zh dL_law_1402 rfl ?_
  refine z_aloadn zh dL_law_1403 rfl ?_
  refine z_iloadn zh dL_law_1404 rfl ?_
  refine z_iconst zh dL_law_1405 ki_1 ?_
  refine z_iaddN zh dL_law_1406 ?_
  refine z_sld (j := 1) zh rfl dL_law_1407 (by decide) (by decide) ?_
  refine z_aloadn zh dL_law_1408 rfl ?_
  refine z_iloadn zh dL_law_1409 rfl ?_
  refine z_iconst zh dL_law_1410 ki_2 ?_
  refine z_iaddN zh dL_law_1411 ?_
  refine z_sld (j := 2) zh rfl dL_law_1412 (by decide) (by decide) ?_
  refine z_callVI (As := [.int (xs 1), .int (xs 2)]) zh mv_Law_157 dL_law_1413 ck_Y rfl (c_Y_reached g (x := xs 1) (w := xs 2) (dm := 0) hR1) ⟨(Nat.le_of_ble_eq_true rfl), (Nat.le_of_ble_eq_true rfl)⟩ rfl rfl (Nat.le_of_ble_eq_true rfl) ?_
  rintro _ iv2 lv2 rfl
  refine z_icmp_eq (tgt := 1483) zh dL_law_1416 rfl (fun _ => ?_) (fun q => absurd rfl q)
  exact kk _ _
theorem la_33 {g : GE} {b : Nat} {xs : Nat → Int32} {Q : Option Value → Iv → Lv → Prop} {Z : ZT} (zh : LRw g b xs Q Z) (kk : ∀ iv lv, Z 1483 (LC g b) [] iv lv) : Z 1421 (LC g b) [] iv0 lv0 := by
  refine z_aloadnR zh dL_law_1421 rfl ?_
  refine z_aloadn zh dL_law_1422 rfl ?_
  refine z_iloadn zh dL_law_1423 rfl ?_
  refine z_iconst zh dL_law_1424 ki_1 ?_
  refine z_iaddN zh dL_law_1425 ?_
  refine z_sld (j := 1) zh rfl dL_law_1426 (by decide) (by decide) ?_
  refine z_if_eq (tgt := 1434) zh dL_law_1427 rfl (fun hb1 => ?_) (fun hb1 => ?_)
  · refine z_iconst zh dL_law_1434 ki_0 ?_
    refine z_callVI (As := [.int (nI 0)]) zh mv_Law_158 dL_law_1435 ck_X rfl (c_X_image g (z := nI 0) (dd := fun _ => 0) o0) ⟨(Nat.le_of_ble_eq_true rfl), (Nat.le_of_ble_eq_true rfl)⟩ rfl rfl (Nat.le_of_ble_eq_true rfl) ?_
    rintro _ iv1 lv1 ⟨rfl, hR1⟩
    refine z_aloadnR zh dL_law_1438 rfl ?_
    refine z_aloadn zh dL_law_1439 rfl ?_
    refine z_iloadn zh dL_law_1440 rfl ?_
    refine z_iconst zh dL_law_1441 ki_1 ?_
    refine z_iaddN zh dL_law_1442 ?_
    refine z_sld (j := 1) zh rfl dL_law_1443 (by decide) (by decide) ?_
    refine z_if_eq (tgt := 1451) zh dL_law_1444 rfl (fun _ => ?_) (fun q => absurd hb1 q)
    refine z_iconst zh dL_law_1451 ki_0 ?_
    refine z_callVI (As := [.int (nI 0)]) zh mv_Law_162 dL_law_1452 ck_Y rfl (c_Y_image g (z := nI 0) (dm := 0) hR1) ⟨(Nat.le_of_ble_eq_true rfl), (Nat.le_of_ble_eq_true rfl)⟩ rfl rfl (Nat.le_of_ble_eq_true rfl) ?_
    rintro _ iv2 lv2 rfl
    refine z_icmp_eq (tgt := 1483) zh dL_law_1455 rfl (fun _ => ?_) (fun q => absurd rfl q)
    exact kk _ _
  · refine z_iconst zh dL_law_1430 ki_1 ?_
    refine z_goto (tgt := 1435) zh dL_law_1431 rfl ?_
    refine z_callVI (As := [.int (nI 1)]) zh mv_Law_158 dL_law_1435 ck_X rfl (c_X_image g (z := nI 1) (dd := fun _ => 0) o0) ⟨(Nat.le_of_ble_eq_true rfl), (Nat.le_of_ble_eq_true rfl)⟩ rfl rfl (Nat.le_of_ble_eq_true rfl) ?_
    rintro _ iv1 lv1 ⟨rfl, hR1⟩
    refine z_aloadnR zh dL_law_1438 rfl ?_
    refine z_aloadn zh dL_law_1439 rfl ?_
    refine z_iloadn zh dL_law_1440 rfl ?_
    refine z_iconst zh dL_law_1441 ki_1 ?_
    refine z_iaddN zh dL_law_1442 ?_
    refine z_sld (j := 1) zh rfl dL_law_1443 (by decide) (by decide) ?_
    refine z_if_eq (tgt := 1451) zh dL_law_1444 rfl (fun q => absurd q hb1) (fun _ => ?_)
    refine z_iconst zh dL_law_1447 ki_1 ?_
    refine z_goto (tgt := 1452) zh dL_law_1448 rfl ?_
    refine z_callVI (As := [.int (nI 1)]) zh mv_Law_162 dL_law_1452 ck_Y rfl (c_Y_image g (z := nI 1) (dm := 0) hR1) ⟨(Nat.le_of_ble_eq_true rfl), (Nat.le_of_ble_eq_true rfl)⟩ rfl rfl (Nat.le_of_ble_eq_true rfl) ?_
    rintro _ iv2 lv2 rfl
    refine z_icmp_eq (tgt := 1483) zh dL_law_1455 rfl (fun _ => ?_) (fun q => absurd rfl q)
    exact kk _ _
theorem la_34 {g : GE} {b : Nat} {xs : Nat → Int32} {Q : Option Value → Iv → Lv → Prop} {Z : ZT} (zh : LRw g b xs Q Z) (kk : ∀ iv lv, Z 1483 (LC g b) [] iv lv) : Z 1460 (LC g b) [] iv0 lv0 := by
  refine z_aloadnR zh dL_law_1460 rfl ?_
  refine z_aloadn zh dL_law_1461 rfl ?_
  refine z_iloadn zh dL_law_1462 rfl ?_
  refine z_iconst zh dL_law_1463 ki_1 ?_
  refine z_iaddN zh dL_law_1464 ?_
  refine z_sld (j := 1) zh rfl dL_law_1465 (by decide) (by decide) ?_
  refine z_callVI (As := [.int (xs 1)]) zh mv_Law_163 dL_law_1466 ck_X rfl (c_X_look g (w := xs 1) (dd := fun _ => 0) o0) ⟨(Nat.le_of_ble_eq_true rfl), (Nat.le_of_ble_eq_true rfl)⟩ rfl rfl (Nat.le_of_ble_eq_true rfl) ?_
  rintro _ iv1 lv1 ⟨rfl, hR1⟩
  refine z_aloadnR zh dL_law_1469 rfl ?_
  refine z_aloadn zh dL_law_1470 rfl ?_
  refine z_iloadn zh dL_law_1471 rfl ?_
  refine z_iconst zh dL_law_1472 ki_1 ?_
  refine z_iaddN zh dL_law_1473 ?_
  refine z_sld (j := 1) zh rfl dL_law_1474 (by decide) (by decide) ?_
  refine z_callVI (As := [.int (xs 1)]) zh mv_Law_166 dL_law_1475 ck_Y rfl (c_Y_look g (w := xs 1) (dm := 0) hR1) ⟨(Nat.le_of_ble_eq_true rfl), (Nat.le_of_ble_eq_true rfl)⟩ rfl rfl (Nat.le_of_ble_eq_true rfl) ?_
  rintro _ iv2 lv2 rfl
  refine z_icmp_eq (tgt := 1483) zh dL_law_1478 rfl (fun _ => ?_) (fun q => absurd rfl q)
  exact kk _ _

/-! THE LAW: its arms -/
def R_law : String := "RollingNetsLaw"
def LwC (g : GE) (b j : Nat) : LO := [some (.ref b), some (rf g 0), some (rf g 551), some (.int (nI j))]
abbrev LRw (g : GE) (b L : Nat) (xs : Nat → Int32) (Q : Option Value → Iv → Lv → Prop) (Z : ZT) : Prop := Rw g R_law code 4 (some .boolean) room_1 (some (b, L, xs)) Q Z
theorem z_pop2 {g : GE} {own : String} {cc : ByteArray} {nL : Nat} {ret : Option FieldType} {R : Room} {scr : Option (Nat × Nat × (Nat → Int32))} {Q : Option Value → Iv → Lv → Prop} {Z : ZT} {pc : Nat} {L : LO} {st : List Value} {iv : Iv} {lv : Lv} (h : Rw g own cc nL ret R scr Q Z) {v : Value} (hd : decode cc pc = .ok (.pop2, 1)) (hc : v.category = 2) (k : Z (pc + 1) L (st) iv lv) : Z pc L (v :: st) iv lv := by
  obtain ⟨p, e, s, m, args, below, meth, c, cells, slots, A, H0, QS, hx, hb, hml, hown, hts, hK, hf, hscr, hfin, hZ⟩ := h
  rw [hZ] at k ⊢
  intro H ls locs hM hS hL
  exact lv_pop2_2 hx hb hd hc (k H ls locs hM hS hL)
theorem la_0 {g : GE} {b L j : Nat} {xs : Nat → Int32} {Q : Option Value → Iv → Lv → Prop} {Z : ZT} {iv : Iv} {lv : Lv} (zh : LRw g b L xs Q Z) (hj : j + 6 ≤ L) (hL : L ≤ 3072) (hG : SI s0 z0 iv) (hR : RV iv) (kk : ∀ iv lv, SI s0 z0 iv → RV iv → Z 1481 (LwC g b j) [] iv lv) : Z 188 (LwC g b j) [] iv lv := by
  refine z_aloadnR zh dL_law_188 rfl ?_
  refine z_aloadn zh dL_law_189 rfl ?_
  refine z_iloadn zh dL_law_190 rfl ?_
  refine z_iconst zh dL_law_191 ki_1 ?_
  refine z_iaddN zh dL_law_192 ?_
  refine z_sld (j := j + 1) zh rfl dL_law_193 (by omega) (by omega) ?_
  refine z_aloadn zh dL_law_194 rfl ?_
  refine z_iloadn zh dL_law_195 rfl ?_
  refine z_iconst zh dL_law_196 ki_2 ?_
  refine z_iaddN zh dL_law_197 ?_
  refine z_sld (j := j + 2) zh rfl dL_law_198 (by omega) (by omega) ?_
  refine z_callVI (As := [.int (xs (j + 1)), .int (xs (j + 2))]) zh mv_Law_13 dL_law_199 ck_X rfl (v_X8_set g hG hR) ⟨(Nat.le_of_ble_eq_true rfl), (Nat.le_of_ble_eq_true rfl)⟩ rfl rfl (Nat.le_of_ble_eq_true rfl) ?_
  rintro _ iv lv ⟨hG, hM⟩
  refine z_pop zh dL_law_202 rfl ?_
  refine z_aloadnR zh dL_law_203 rfl ?_
  refine z_aloadn zh dL_law_204 rfl ?_
  refine z_iloadn zh dL_law_205 rfl ?_
  refine z_iconst zh dL_law_206 ki_1 ?_
  refine z_iaddN zh dL_law_207 ?_
  refine z_sld (j := j + 1) zh rfl dL_law_208 (by omega) (by omega) ?_
  refine z_aloadn zh dL_law_209 rfl ?_
  refine z_iloadn zh dL_law_210 rfl ?_
  refine z_iconst zh dL_law_211 ki_2 ?_
  refine z_iaddN zh dL_law_212 ?_
  refine z_sld (j := j + 2) zh rfl dL_law_213 (by omega) (by omega) ?_
  refine z_callVI (As := [.int (xs (j + 1)), .int (xs (j + 2))]) zh mv_Law_17 dL_law_214 ck_Y rfl (v_X9_set g hG hM) ⟨(Nat.le_of_ble_eq_true rfl), (Nat.le_of_ble_eq_true rfl)⟩ rfl rfl (Nat.le_of_ble_eq_true rfl) ?_
  rintro _ iv lv ⟨hG, hR, hp⟩
  refine z_pop zh dL_law_217 rfl ?_
  refine z_goto (tgt := 1481) zh dL_law_218 rfl ?_
  exact kk _ _ hG hR
theorem la_1 {g : GE} {b L j : Nat} {xs : Nat → Int32} {Q : Option Value → Iv → Lv → Prop} {Z : ZT} {iv : Iv} {lv : Lv} (zh : LRw g b L xs Q Z) (hj : j + 6 ≤ L) (hL : L ≤ 3072) (hG : SI s0 z0 iv) (hR : RV iv) (kk : ∀ iv lv, SI s0 z0 iv → RV iv → Z 1481 (LwC g b j) [] iv lv) : Z 221 (LwC g b j) [] iv lv := by
  refine z_aloadnR zh dL_law_221 rfl ?_
  refine z_aloadn zh dL_law_222 rfl ?_
  refine z_iloadn zh dL_law_223 rfl ?_
  refine z_iconst zh dL_law_224 ki_1 ?_
  refine z_iaddN zh dL_law_225 ?_
  refine z_sld (j := j + 1) zh rfl dL_law_226 (by omega) (by omega) ?_
  refine z_aloadn zh dL_law_227 rfl ?_
  refine z_iloadn zh dL_law_228 rfl ?_
  refine z_iconst zh dL_law_229 ki_2 ?_
  refine z_iaddN zh dL_law_230 ?_
  refine z_sld (j := j + 2) zh rfl dL_law_231 (by omega) (by omega) ?_
  refine z_aloadn zh dL_law_232 rfl ?_
  refine z_iloadn zh dL_law_233 rfl ?_
  refine z_iconst zh dL_law_234 ki_3 ?_
  refine z_iaddN zh dL_law_235 ?_
  refine z_sld (j := j + 3) zh rfl dL_law_236 (by omega) (by omega) ?_
  refine z_aloadn zh dL_law_237 rfl ?_
  refine z_iloadn zh dL_law_238 rfl ?_
  refine z_iconst zh dL_law_239 ki_4 ?_
  refine z_iaddN zh dL_law_240 ?_
  refine z_sld (j := j + 4) zh rfl dL_law_241 (by omega) (by omega) ?_
  refine z_callVI (As := [.int (xs (j + 1)), .int (xs (j + 2)), .int (xs (j + 3)), .int (xs (j + 4))]) zh mv_Law_18 dL_law_242 ck_X rfl (v_X8_tell g hG hR) ⟨(Nat.le_of_ble_eq_true rfl), (Nat.le_of_ble_eq_true rfl)⟩ rfl rfl (Nat.le_of_ble_eq_true rfl) ?_
  rintro _ iv lv ⟨hG, hM⟩
  refine z_pop zh dL_law_245 rfl ?_
  refine z_aloadnR zh dL_law_246 rfl ?_
  refine z_aloadn zh dL_law_247 rfl ?_
  refine z_iloadn zh dL_law_248 rfl ?_
  refine z_iconst zh dL_law_249 ki_1 ?_
  refine z_iaddN zh dL_law_250 ?_
  refine z_sld (j := j + 1) zh rfl dL_law_251 (by omega) (by omega) ?_
  refine z_aloadn zh dL_law_252 rfl ?_
  refine z_iloadn zh dL_law_253 rfl ?_
  refine z_iconst zh dL_law_254 ki_2 ?_
  refine z_iaddN zh dL_law_255 ?_
  refine z_sld (j := j + 2) zh rfl dL_law_256 (by omega) (by omega) ?_
  refine z_aloadn zh dL_law_257 rfl ?_
  refine z_iloadn zh dL_law_258 rfl ?_
  refine z_iconst zh dL_law_259 ki_3 ?_
  refine z_iaddN zh dL_law_260 ?_
  refine z_sld (j := j + 3) zh rfl dL_law_261 (by omega) (by omega) ?_
  refine z_aloadn zh dL_law_262 rfl ?_
  refine z_iloadn zh dL_law_263 rfl ?_
  refine z_iconst zh dL_law_264 ki_4 ?_
  refine z_iaddN zh dL_law_265 ?_
  refine z_sld (j := j + 4) zh rfl dL_law_266 (by omega) (by omega) ?_
  refine z_callVI (As := [.int (xs (j + 1)), .int (xs (j + 2)), .int (xs (j + 3)), .int (xs (j + 4))]) zh mv_Law_22 dL_law_267 ck_Y rfl (v_X9_tell g hG hM) ⟨(Nat.le_of_ble_eq_true rfl), (Nat.le_of_ble_eq_true rfl)⟩ rfl rfl (Nat.le_of_ble_eq_true rfl) ?_
  rintro _ iv lv ⟨hG, hR, hp⟩
  refine z_pop zh dL_law_270 rfl ?_
  refine z_goto (tgt := 1481) zh dL_law_271 rfl ?_
  exact kk _ _ hG hR
theorem la_2 {g : GE} {b L j : Nat} {xs : Nat → Int32} {Q : Option Value → Iv → Lv → Prop} {Z : ZT} {iv : Iv} {lv : Lv} (zh : LRw g b L xs Q Z) (hj : j + 6 ≤ L) (hL : L ≤ 3072) (hG : SI s0 z0 iv) (hR : RV iv) (kk : ∀ iv lv, SI s0 z0 iv → RV iv → Z 1481 (LwC g b j) [] iv lv) : Z 274 (LwC g b j) [] iv lv := by
  refine z_aloadnR zh dL_law_274 rfl ?_
  refine z_aloadn zh dL_law_275 rfl ?_
  refine z_iloadn zh dL_law_276 rfl ?_
  refine z_iconst zh dL_law_277 ki_1 ?_
  refine z_iaddN zh dL_law_278 ?_
  refine z_sld (j := j + 1) zh rfl dL_law_279 (by omega) (by omega) ?_
  refine z_aloadn zh dL_law_280 rfl ?_
  refine z_iloadn zh dL_law_281 rfl ?_
  refine z_iconst zh dL_law_282 ki_2 ?_
  refine z_iaddN zh dL_law_283 ?_
  refine z_sld (j := j + 2) zh rfl dL_law_284 (by omega) (by omega) ?_
  refine z_callVI (As := [.int (xs (j + 1)), .int (xs (j + 2))]) zh mv_Law_23 dL_law_285 ck_X rfl (s_X8_price g (si_u (rm := rmN) hG)) ⟨(Nat.le_of_ble_eq_true rfl), (Nat.le_of_ble_eq_true rfl)⟩ rfl rfl (Nat.le_of_ble_eq_true rfl) ?_
  rintro _ iv lv ⟨hS, _⟩
  have hR := rv_fr hS hR
  have hG := si_0 hS
  refine z_pop zh dL_law_288 rfl ?_
  refine z_aloadnR zh dL_law_289 rfl ?_
  refine z_aloadn zh dL_law_290 rfl ?_
  refine z_iloadn zh dL_law_291 rfl ?_
  refine z_iconst zh dL_law_292 ki_1 ?_
  refine z_iaddN zh dL_law_293 ?_
  refine z_sld (j := j + 1) zh rfl dL_law_294 (by omega) (by omega) ?_
  refine z_aloadn zh dL_law_295 rfl ?_
  refine z_iloadn zh dL_law_296 rfl ?_
  refine z_iconst zh dL_law_297 ki_2 ?_
  refine z_iaddN zh dL_law_298 ?_
  refine z_sld (j := j + 2) zh rfl dL_law_299 (by omega) (by omega) ?_
  refine z_callVI (As := [.int (xs (j + 1)), .int (xs (j + 2))]) zh mv_Law_26 dL_law_300 ck_Y rfl (s_X9_price g (si_u (rm := rmN) hG)) ⟨(Nat.le_of_ble_eq_true rfl), (Nat.le_of_ble_eq_true rfl)⟩ rfl rfl (Nat.le_of_ble_eq_true rfl) ?_
  rintro _ iv lv ⟨hS, _⟩
  have hR := rv_fr hS hR
  have hG := si_0 hS
  refine z_pop zh dL_law_303 rfl ?_
  refine z_goto (tgt := 1481) zh dL_law_304 rfl ?_
  exact kk _ _ hG hR
theorem la_3 {g : GE} {b L j : Nat} {xs : Nat → Int32} {Q : Option Value → Iv → Lv → Prop} {Z : ZT} {iv : Iv} {lv : Lv} (zh : LRw g b L xs Q Z) (hj : j + 6 ≤ L) (hL : L ≤ 3072) (hG : SI s0 z0 iv) (hR : RV iv) (kk : ∀ iv lv, SI s0 z0 iv → RV iv → Z 1481 (LwC g b j) [] iv lv) : Z 307 (LwC g b j) [] iv lv := by
  refine z_aloadnR zh dL_law_307 rfl ?_
  refine z_aloadn zh dL_law_308 rfl ?_
  refine z_iloadn zh dL_law_309 rfl ?_
  refine z_iconst zh dL_law_310 ki_1 ?_
  refine z_iaddN zh dL_law_311 ?_
  refine z_sld (j := j + 1) zh rfl dL_law_312 (by omega) (by omega) ?_
  refine z_aloadn zh dL_law_313 rfl ?_
  refine z_iloadn zh dL_law_314 rfl ?_
  refine z_iconst zh dL_law_315 ki_2 ?_
  refine z_iaddN zh dL_law_316 ?_
  refine z_sld (j := j + 2) zh rfl dL_law_317 (by omega) (by omega) ?_
  refine z_aloadn zh dL_law_318 rfl ?_
  refine z_iloadn zh dL_law_319 rfl ?_
  refine z_iconst zh dL_law_320 ki_3 ?_
  refine z_iaddN zh dL_law_321 ?_
  refine z_sld (j := j + 3) zh rfl dL_law_322 (by omega) (by omega) ?_
  refine z_aloadn zh dL_law_323 rfl ?_
  refine z_iloadn zh dL_law_324 rfl ?_
  refine z_iconst zh dL_law_325 ki_4 ?_
  refine z_iaddN zh dL_law_326 ?_
  refine z_sld (j := j + 4) zh rfl dL_law_327 (by omega) (by omega) ?_
  refine z_aloadn zh dL_law_328 rfl ?_
  refine z_iloadn zh dL_law_329 rfl ?_
  refine z_iconst zh dL_law_330 ki_5 ?_
  refine z_iaddN zh dL_law_331 ?_
  refine z_sld (j := j + 5) zh rfl dL_law_332 (by omega) (by omega) ?_
  refine z_callVI (As := [.int (xs (j + 1)), .int (xs (j + 2)), .int (xs (j + 3)), .int (xs (j + 4)), .int (xs (j + 5))]) zh mv_Law_27 dL_law_333 ck_X rfl (v_X8_trade g hG hR) ⟨(Nat.le_of_ble_eq_true rfl), (Nat.le_of_ble_eq_true rfl)⟩ rfl rfl (Nat.le_of_ble_eq_true rfl) ?_
  rintro _ iv lv ⟨hG, hM⟩
  refine z_pop zh dL_law_336 rfl ?_
  refine z_aloadnR zh dL_law_337 rfl ?_
  refine z_aloadn zh dL_law_338 rfl ?_
  refine z_iloadn zh dL_law_339 rfl ?_
  refine z_iconst zh dL_law_340 ki_1 ?_
  refine z_iaddN zh dL_law_341 ?_
  refine z_sld (j := j + 1) zh rfl dL_law_342 (by omega) (by omega) ?_
  refine z_aloadn zh dL_law_343 rfl ?_
  refine z_iloadn zh dL_law_344 rfl ?_
  refine z_iconst zh dL_law_345 ki_2 ?_
  refine z_iaddN zh dL_law_346 ?_
  refine z_sld (j := j + 2) zh rfl dL_law_347 (by omega) (by omega) ?_
  refine z_aloadn zh dL_law_348 rfl ?_
  refine z_iloadn zh dL_law_349 rfl ?_
  refine z_iconst zh dL_law_350 ki_3 ?_
  refine z_iaddN zh dL_law_351 ?_
  refine z_sld (j := j + 3) zh rfl dL_law_352 (by omega) (by omega) ?_
  refine z_aloadn zh dL_law_353 rfl ?_
  refine z_iloadn zh dL_law_354 rfl ?_
  refine z_iconst zh dL_law_355 ki_4 ?_
  refine z_iaddN zh dL_law_356 ?_
  refine z_sld (j := j + 4) zh rfl dL_law_357 (by omega) (by omega) ?_
  refine z_aloadn zh dL_law_358 rfl ?_
  refine z_iloadn zh dL_law_359 rfl ?_
  refine z_iconst zh dL_law_360 ki_5 ?_
  refine z_iaddN zh dL_law_361 ?_
  refine z_sld (j := j + 5) zh rfl dL_law_362 (by omega) (by omega) ?_
  refine z_callVI (As := [.int (xs (j + 1)), .int (xs (j + 2)), .int (xs (j + 3)), .int (xs (j + 4)), .int (xs (j + 5))]) zh mv_Law_31 dL_law_363 ck_Y rfl (v_X9_trade g hG hM) ⟨(Nat.le_of_ble_eq_true rfl), (Nat.le_of_ble_eq_true rfl)⟩ rfl rfl (Nat.le_of_ble_eq_true rfl) ?_
  rintro _ iv lv ⟨hG, hR, hp⟩
  refine z_pop zh dL_law_366 rfl ?_
  refine z_goto (tgt := 1481) zh dL_law_367 rfl ?_
  exact kk _ _ hG hR
theorem la_4 {g : GE} {b L j : Nat} {xs : Nat → Int32} {Q : Option Value → Iv → Lv → Prop} {Z : ZT} {iv : Iv} {lv : Lv} (zh : LRw g b L xs Q Z) (hj : j + 6 ≤ L) (hL : L ≤ 3072) (hG : SI s0 z0 iv) (hR : RV iv) (kk : ∀ iv lv, SI s0 z0 iv → RV iv → Z 1481 (LwC g b j) [] iv lv) : Z 370 (LwC g b j) [] iv lv := by
  refine z_aloadnR zh dL_law_370 rfl ?_
  refine z_aloadn zh dL_law_371 rfl ?_
  refine z_iloadn zh dL_law_372 rfl ?_
  refine z_iconst zh dL_law_373 ki_1 ?_
  refine z_iaddN zh dL_law_374 ?_
  refine z_sld (j := j + 1) zh rfl dL_law_375 (by omega) (by omega) ?_
  refine z_aloadn zh dL_law_376 rfl ?_
  refine z_iloadn zh dL_law_377 rfl ?_
  refine z_iconst zh dL_law_378 ki_2 ?_
  refine z_iaddN zh dL_law_379 ?_
  refine z_sld (j := j + 2) zh rfl dL_law_380 (by omega) (by omega) ?_
  refine z_aloadn zh dL_law_381 rfl ?_
  refine z_iloadn zh dL_law_382 rfl ?_
  refine z_iconst zh dL_law_383 ki_3 ?_
  refine z_iaddN zh dL_law_384 ?_
  refine z_sld (j := j + 3) zh rfl dL_law_385 (by omega) (by omega) ?_
  refine z_aloadn zh dL_law_386 rfl ?_
  refine z_iloadn zh dL_law_387 rfl ?_
  refine z_iconst zh dL_law_388 ki_4 ?_
  refine z_iaddN zh dL_law_389 ?_
  refine z_sld (j := j + 4) zh rfl dL_law_390 (by omega) (by omega) ?_
  refine z_aloadn zh dL_law_391 rfl ?_
  refine z_iloadn zh dL_law_392 rfl ?_
  refine z_iconst zh dL_law_393 ki_5 ?_
  refine z_iaddN zh dL_law_394 ?_
  refine z_sld (j := j + 5) zh rfl dL_law_395 (by omega) (by omega) ?_
  refine z_callVI (As := [.int (xs (j + 1)), .int (xs (j + 2)), .int (xs (j + 3)), .int (xs (j + 4)), .int (xs (j + 5))]) zh mv_Law_32 dL_law_396 ck_X rfl (v_X8_apart g hG hR) ⟨(Nat.le_of_ble_eq_true rfl), (Nat.le_of_ble_eq_true rfl)⟩ rfl rfl (Nat.le_of_ble_eq_true rfl) ?_
  rintro _ iv lv ⟨hG, hM⟩
  refine z_pop zh dL_law_399 rfl ?_
  refine z_aloadnR zh dL_law_400 rfl ?_
  refine z_aloadn zh dL_law_401 rfl ?_
  refine z_iloadn zh dL_law_402 rfl ?_
  refine z_iconst zh dL_law_403 ki_1 ?_
  refine z_iaddN zh dL_law_404 ?_
  refine z_sld (j := j + 1) zh rfl dL_law_405 (by omega) (by omega) ?_
  refine z_aloadn zh dL_law_406 rfl ?_
  refine z_iloadn zh dL_law_407 rfl ?_
  refine z_iconst zh dL_law_408 ki_2 ?_
  refine z_iaddN zh dL_law_409 ?_
  refine z_sld (j := j + 2) zh rfl dL_law_410 (by omega) (by omega) ?_
  refine z_aloadn zh dL_law_411 rfl ?_
  refine z_iloadn zh dL_law_412 rfl ?_
  refine z_iconst zh dL_law_413 ki_3 ?_
  refine z_iaddN zh dL_law_414 ?_
  refine z_sld (j := j + 3) zh rfl dL_law_415 (by omega) (by omega) ?_
  refine z_aloadn zh dL_law_416 rfl ?_
  refine z_iloadn zh dL_law_417 rfl ?_
  refine z_iconst zh dL_law_418 ki_4 ?_
  refine z_iaddN zh dL_law_419 ?_
  refine z_sld (j := j + 4) zh rfl dL_law_420 (by omega) (by omega) ?_
  refine z_aloadn zh dL_law_421 rfl ?_
  refine z_iloadn zh dL_law_422 rfl ?_
  refine z_iconst zh dL_law_423 ki_5 ?_
  refine z_iaddN zh dL_law_424 ?_
  refine z_sld (j := j + 5) zh rfl dL_law_425 (by omega) (by omega) ?_
  refine z_callVI (As := [.int (xs (j + 1)), .int (xs (j + 2)), .int (xs (j + 3)), .int (xs (j + 4)), .int (xs (j + 5))]) zh mv_Law_35 dL_law_426 ck_Y rfl (v_X9_apart g hG hM) ⟨(Nat.le_of_ble_eq_true rfl), (Nat.le_of_ble_eq_true rfl)⟩ rfl rfl (Nat.le_of_ble_eq_true rfl) ?_
  rintro _ iv lv ⟨hG, hR, hp⟩
  refine z_pop zh dL_law_429 rfl ?_
  refine z_goto (tgt := 1481) zh dL_law_430 rfl ?_
  exact kk _ _ hG hR
theorem la_5 {g : GE} {b L j : Nat} {xs : Nat → Int32} {Q : Option Value → Iv → Lv → Prop} {Z : ZT} {iv : Iv} {lv : Lv} (zh : LRw g b L xs Q Z) (hj : j + 6 ≤ L) (hL : L ≤ 3072) (hG : SI s0 z0 iv) (hR : RV iv) (kk : ∀ iv lv, SI s0 z0 iv → RV iv → Z 1481 (LwC g b j) [] iv lv) : Z 433 (LwC g b j) [] iv lv := by
  refine z_aloadnR zh dL_law_433 rfl ?_
  refine z_aloadn zh dL_law_434 rfl ?_
  refine z_iloadn zh dL_law_435 rfl ?_
  refine z_iconst zh dL_law_436 ki_1 ?_
  refine z_iaddN zh dL_law_437 ?_
  refine z_sld (j := j + 1) zh rfl dL_law_438 (by omega) (by omega) ?_
  refine z_aloadn zh dL_law_439 rfl ?_
  refine z_iloadn zh dL_law_440 rfl ?_
  refine z_iconst zh dL_law_441 ki_2 ?_
  refine z_iaddN zh dL_law_442 ?_
  refine z_sld (j := j + 2) zh rfl dL_law_443 (by omega) (by omega) ?_
  refine z_callVI (As := [.int (xs (j + 1)), .int (xs (j + 2))]) zh mv_Law_36 dL_law_444 ck_X rfl (s_X8_dividend g (si_u (rm := rmN) hG)) ⟨(Nat.le_of_ble_eq_true rfl), (Nat.le_of_ble_eq_true rfl)⟩ rfl rfl (Nat.le_of_ble_eq_true rfl) ?_
  rintro _ iv lv ⟨hS, _⟩
  have hR := rv_fr hS hR
  have hG := si_0 hS
  refine z_pop zh dL_law_447 rfl ?_
  refine z_aloadnR zh dL_law_448 rfl ?_
  refine z_aloadn zh dL_law_449 rfl ?_
  refine z_iloadn zh dL_law_450 rfl ?_
  refine z_iconst zh dL_law_451 ki_1 ?_
  refine z_iaddN zh dL_law_452 ?_
  refine z_sld (j := j + 1) zh rfl dL_law_453 (by omega) (by omega) ?_
  refine z_aloadn zh dL_law_454 rfl ?_
  refine z_iloadn zh dL_law_455 rfl ?_
  refine z_iconst zh dL_law_456 ki_2 ?_
  refine z_iaddN zh dL_law_457 ?_
  refine z_sld (j := j + 2) zh rfl dL_law_458 (by omega) (by omega) ?_
  refine z_callVI (As := [.int (xs (j + 1)), .int (xs (j + 2))]) zh mv_Law_39 dL_law_459 ck_Y rfl (s_X9_dividend g (si_u (rm := rmN) hG)) ⟨(Nat.le_of_ble_eq_true rfl), (Nat.le_of_ble_eq_true rfl)⟩ rfl rfl (Nat.le_of_ble_eq_true rfl) ?_
  rintro _ iv lv ⟨hS, _⟩
  have hR := rv_fr hS hR
  have hG := si_0 hS
  refine z_pop zh dL_law_462 rfl ?_
  refine z_goto (tgt := 1481) zh dL_law_463 rfl ?_
  exact kk _ _ hG hR
theorem la_6 {g : GE} {b L j : Nat} {xs : Nat → Int32} {Q : Option Value → Iv → Lv → Prop} {Z : ZT} {iv : Iv} {lv : Lv} (zh : LRw g b L xs Q Z) (hj : j + 6 ≤ L) (hL : L ≤ 3072) (hG : SI s0 z0 iv) (hR : RV iv) (kk : ∀ iv lv, SI s0 z0 iv → RV iv → Z 1481 (LwC g b j) [] iv lv) : Z 466 (LwC g b j) [] iv lv := by
  refine z_aloadnR zh dL_law_466 rfl ?_
  refine z_aloadn zh dL_law_467 rfl ?_
  refine z_iloadn zh dL_law_468 rfl ?_
  refine z_iconst zh dL_law_469 ki_1 ?_
  refine z_iaddN zh dL_law_470 ?_
  refine z_sld (j := j + 1) zh rfl dL_law_471 (by omega) (by omega) ?_
  refine z_aloadn zh dL_law_472 rfl ?_
  refine z_iloadn zh dL_law_473 rfl ?_
  refine z_iconst zh dL_law_474 ki_2 ?_
  refine z_iaddN zh dL_law_475 ?_
  refine z_sld (j := j + 2) zh rfl dL_law_476 (by omega) (by omega) ?_
  refine z_aloadn zh dL_law_477 rfl ?_
  refine z_iloadn zh dL_law_478 rfl ?_
  refine z_iconst zh dL_law_479 ki_3 ?_
  refine z_iaddN zh dL_law_480 ?_
  refine z_sld (j := j + 3) zh rfl dL_law_481 (by omega) (by omega) ?_
  refine z_aloadn zh dL_law_482 rfl ?_
  refine z_iloadn zh dL_law_483 rfl ?_
  refine z_iconst zh dL_law_484 ki_4 ?_
  refine z_iaddN zh dL_law_485 ?_
  refine z_sld (j := j + 4) zh rfl dL_law_486 (by omega) (by omega) ?_
  refine z_callVI (As := [.int (xs (j + 1)), .int (xs (j + 2)), .int (xs (j + 3)), .int (xs (j + 4))]) zh mv_Law_40 dL_law_487 ck_X rfl (s_X8_move g (si_u (rm := rmN) hG)) ⟨(Nat.le_of_ble_eq_true rfl), (Nat.le_of_ble_eq_true rfl)⟩ rfl rfl (Nat.le_of_ble_eq_true rfl) ?_
  rintro _ iv lv ⟨hS, _⟩
  have hR := rv_fr hS hR
  have hG := si_0 hS
  refine z_pop zh dL_law_490 rfl ?_
  refine z_aloadnR zh dL_law_491 rfl ?_
  refine z_aloadn zh dL_law_492 rfl ?_
  refine z_iloadn zh dL_law_493 rfl ?_
  refine z_iconst zh dL_law_494 ki_1 ?_
  refine z_iaddN zh dL_law_495 ?_
  refine z_sld (j := j + 1) zh rfl dL_law_496 (by omega) (by omega) ?_
  refine z_aloadn zh dL_law_497 rfl ?_
  refine z_iloadn zh dL_law_498 rfl ?_
  refine z_iconst zh dL_law_499 ki_2 ?_
  refine z_iaddN zh dL_law_500 ?_
  refine z_sld (j := j + 2) zh rfl dL_law_501 (by omega) (by omega) ?_
  refine z_aloadn zh dL_law_502 rfl ?_
  refine z_iloadn zh dL_law_503 rfl ?_
  refine z_iconst zh dL_law_504 ki_3 ?_
  refine z_iaddN zh dL_law_505 ?_
  refine z_sld (j := j + 3) zh rfl dL_law_506 (by omega) (by omega) ?_
  refine z_aloadn zh dL_law_507 rfl ?_
  refine z_iloadn zh dL_law_508 rfl ?_
  refine z_iconst zh dL_law_509 ki_4 ?_
  refine z_iaddN zh dL_law_510 ?_
  refine z_sld (j := j + 4) zh rfl dL_law_511 (by omega) (by omega) ?_
  refine z_callVI (As := [.int (xs (j + 1)), .int (xs (j + 2)), .int (xs (j + 3)), .int (xs (j + 4))]) zh mv_Law_43 dL_law_512 ck_Y rfl (s_X9_move g (si_u (rm := rmN) hG)) ⟨(Nat.le_of_ble_eq_true rfl), (Nat.le_of_ble_eq_true rfl)⟩ rfl rfl (Nat.le_of_ble_eq_true rfl) ?_
  rintro _ iv lv ⟨hS, _⟩
  have hR := rv_fr hS hR
  have hG := si_0 hS
  refine z_pop zh dL_law_515 rfl ?_
  refine z_goto (tgt := 1481) zh dL_law_516 rfl ?_
  exact kk _ _ hG hR
theorem la_7 {g : GE} {b L j : Nat} {xs : Nat → Int32} {Q : Option Value → Iv → Lv → Prop} {Z : ZT} {iv : Iv} {lv : Lv} (zh : LRw g b L xs Q Z) (hj : j + 6 ≤ L) (hL : L ≤ 3072) (hG : SI s0 z0 iv) (hR : RV iv) (kk : ∀ iv lv, SI s0 z0 iv → RV iv → Z 1481 (LwC g b j) [] iv lv) : Z 519 (LwC g b j) [] iv lv := by
  refine z_aloadnR zh dL_law_519 rfl ?_
  refine z_aloadn zh dL_law_520 rfl ?_
  refine z_iloadn zh dL_law_521 rfl ?_
  refine z_iconst zh dL_law_522 ki_1 ?_
  refine z_iaddN zh dL_law_523 ?_
  refine z_sld (j := j + 1) zh rfl dL_law_524 (by omega) (by omega) ?_
  refine z_aloadn zh dL_law_525 rfl ?_
  refine z_iloadn zh dL_law_526 rfl ?_
  refine z_iconst zh dL_law_527 ki_2 ?_
  refine z_iaddN zh dL_law_528 ?_
  refine z_sld (j := j + 2) zh rfl dL_law_529 (by omega) (by omega) ?_
  refine z_callVI (As := [.int (xs (j + 1)), .int (xs (j + 2))]) zh mv_Law_44 dL_law_530 ck_X rfl (s_X8_split g (si_u (rm := rmN) hG)) ⟨(Nat.le_of_ble_eq_true rfl), (Nat.le_of_ble_eq_true rfl)⟩ rfl rfl (Nat.le_of_ble_eq_true rfl) ?_
  rintro _ iv lv ⟨hS, _⟩
  have hR := rv_fr hS hR
  have hG := si_0 hS
  refine z_pop zh dL_law_533 rfl ?_
  refine z_aloadnR zh dL_law_534 rfl ?_
  refine z_aloadn zh dL_law_535 rfl ?_
  refine z_iloadn zh dL_law_536 rfl ?_
  refine z_iconst zh dL_law_537 ki_1 ?_
  refine z_iaddN zh dL_law_538 ?_
  refine z_sld (j := j + 1) zh rfl dL_law_539 (by omega) (by omega) ?_
  refine z_aloadn zh dL_law_540 rfl ?_
  refine z_iloadn zh dL_law_541 rfl ?_
  refine z_iconst zh dL_law_542 ki_2 ?_
  refine z_iaddN zh dL_law_543 ?_
  refine z_sld (j := j + 2) zh rfl dL_law_544 (by omega) (by omega) ?_
  refine z_callVI (As := [.int (xs (j + 1)), .int (xs (j + 2))]) zh mv_Law_47 dL_law_545 ck_Y rfl (s_X9_split g (si_u (rm := rmN) hG)) ⟨(Nat.le_of_ble_eq_true rfl), (Nat.le_of_ble_eq_true rfl)⟩ rfl rfl (Nat.le_of_ble_eq_true rfl) ?_
  rintro _ iv lv ⟨hS, _⟩
  have hR := rv_fr hS hR
  have hG := si_0 hS
  refine z_pop zh dL_law_548 rfl ?_
  refine z_goto (tgt := 1481) zh dL_law_549 rfl ?_
  exact kk _ _ hG hR
theorem la_8 {g : GE} {b L j : Nat} {xs : Nat → Int32} {Q : Option Value → Iv → Lv → Prop} {Z : ZT} {iv : Iv} {lv : Lv} (zh : LRw g b L xs Q Z) (hj : j + 6 ≤ L) (hL : L ≤ 3072) (hG : SI s0 z0 iv) (hR : RV iv) (kk : ∀ iv lv, SI s0 z0 iv → RV iv → Z 1481 (LwC g b j) [] iv lv) : Z 552 (LwC g b j) [] iv lv := by
  refine z_aloadnR zh dL_law_552 rfl ?_
  refine z_aloadn zh dL_law_553 rfl ?_
  refine z_iloadn zh dL_law_554 rfl ?_
  refine z_iconst zh dL_law_555 ki_1 ?_
  refine z_iaddN zh dL_law_556 ?_
  refine z_sld (j := j + 1) zh rfl dL_law_557 (by omega) (by omega) ?_
  refine z_aloadn zh dL_law_558 rfl ?_
  refine z_iloadn zh dL_law_559 rfl ?_
  refine z_iconst zh dL_law_560 ki_2 ?_
  refine z_iaddN zh dL_law_561 ?_
  refine z_sld (j := j + 2) zh rfl dL_law_562 (by omega) (by omega) ?_
  refine z_if_eq (tgt := 570) zh dL_law_563 rfl (fun hb1 => ?_) (fun hb1 => ?_)
  · refine z_iconst zh dL_law_570 ki_0 ?_
    refine z_callVI (As := [.int (xs (j + 1)), .int (nI 0)]) zh mv_Law_48 dL_law_571 ck_X rfl (v_X8_suspend g hG hR) ⟨(Nat.le_of_ble_eq_true rfl), (Nat.le_of_ble_eq_true rfl)⟩ rfl rfl (Nat.le_of_ble_eq_true rfl) ?_
    rintro _ iv lv ⟨hG, hM⟩
    refine z_pop zh dL_law_574 rfl ?_
    refine z_aloadnR zh dL_law_575 rfl ?_
    refine z_aloadn zh dL_law_576 rfl ?_
    refine z_iloadn zh dL_law_577 rfl ?_
    refine z_iconst zh dL_law_578 ki_1 ?_
    refine z_iaddN zh dL_law_579 ?_
    refine z_sld (j := j + 1) zh rfl dL_law_580 (by omega) (by omega) ?_
    refine z_aloadn zh dL_law_581 rfl ?_
    refine z_iloadn zh dL_law_582 rfl ?_
    refine z_iconst zh dL_law_583 ki_2 ?_
    refine z_iaddN zh dL_law_584 ?_
    refine z_sld (j := j + 2) zh rfl dL_law_585 (by omega) (by omega) ?_
    refine z_if_eq (tgt := 593) zh dL_law_586 rfl (fun _ => ?_) (fun q => absurd hb1 q)
    refine z_iconst zh dL_law_593 ki_0 ?_
    refine z_callVI (As := [.int (xs (j + 1)), .int (nI 0)]) zh mv_Law_52 dL_law_594 ck_Y rfl (v_X9_suspend g hG hM) ⟨(Nat.le_of_ble_eq_true rfl), (Nat.le_of_ble_eq_true rfl)⟩ rfl rfl (Nat.le_of_ble_eq_true rfl) ?_
    rintro _ iv lv ⟨hG, hR, hp⟩
    refine z_pop zh dL_law_597 rfl ?_
    refine z_goto (tgt := 1481) zh dL_law_598 rfl ?_
    exact kk _ _ hG hR
  · refine z_iconst zh dL_law_566 ki_1 ?_
    refine z_goto (tgt := 571) zh dL_law_567 rfl ?_
    refine z_callVI (As := [.int (xs (j + 1)), .int (nI 1)]) zh mv_Law_48 dL_law_571 ck_X rfl (v_X8_suspend g hG hR) ⟨(Nat.le_of_ble_eq_true rfl), (Nat.le_of_ble_eq_true rfl)⟩ rfl rfl (Nat.le_of_ble_eq_true rfl) ?_
    rintro _ iv lv ⟨hG, hM⟩
    refine z_pop zh dL_law_574 rfl ?_
    refine z_aloadnR zh dL_law_575 rfl ?_
    refine z_aloadn zh dL_law_576 rfl ?_
    refine z_iloadn zh dL_law_577 rfl ?_
    refine z_iconst zh dL_law_578 ki_1 ?_
    refine z_iaddN zh dL_law_579 ?_
    refine z_sld (j := j + 1) zh rfl dL_law_580 (by omega) (by omega) ?_
    refine z_aloadn zh dL_law_581 rfl ?_
    refine z_iloadn zh dL_law_582 rfl ?_
    refine z_iconst zh dL_law_583 ki_2 ?_
    refine z_iaddN zh dL_law_584 ?_
    refine z_sld (j := j + 2) zh rfl dL_law_585 (by omega) (by omega) ?_
    refine z_if_eq (tgt := 593) zh dL_law_586 rfl (fun q => absurd q hb1) (fun _ => ?_)
    refine z_iconst zh dL_law_589 ki_1 ?_
    refine z_goto (tgt := 594) zh dL_law_590 rfl ?_
    refine z_callVI (As := [.int (xs (j + 1)), .int (nI 1)]) zh mv_Law_52 dL_law_594 ck_Y rfl (v_X9_suspend g hG hM) ⟨(Nat.le_of_ble_eq_true rfl), (Nat.le_of_ble_eq_true rfl)⟩ rfl rfl (Nat.le_of_ble_eq_true rfl) ?_
    rintro _ iv lv ⟨hG, hR, hp⟩
    refine z_pop zh dL_law_597 rfl ?_
    refine z_goto (tgt := 1481) zh dL_law_598 rfl ?_
    exact kk _ _ hG hR
theorem la_9 {g : GE} {b L j : Nat} {xs : Nat → Int32} {Q : Option Value → Iv → Lv → Prop} {Z : ZT} {iv : Iv} {lv : Lv} (zh : LRw g b L xs Q Z) (hj : j + 6 ≤ L) (hL : L ≤ 3072) (hG : SI s0 z0 iv) (hR : RV iv) (kk : ∀ iv lv, SI s0 z0 iv → RV iv → Z 1481 (LwC g b j) [] iv lv) : Z 601 (LwC g b j) [] iv lv := by
  refine z_aloadnR zh dL_law_601 rfl ?_
  refine z_aloadn zh dL_law_602 rfl ?_
  refine z_iloadn zh dL_law_603 rfl ?_
  refine z_iconst zh dL_law_604 ki_1 ?_
  refine z_iaddN zh dL_law_605 ?_
  refine z_sld (j := j + 1) zh rfl dL_law_606 (by omega) (by omega) ?_
  refine z_aloadn zh dL_law_607 rfl ?_
  refine z_iloadn zh dL_law_608 rfl ?_
  refine z_iconst zh dL_law_609 ki_2 ?_
  refine z_iaddN zh dL_law_610 ?_
  refine z_sld (j := j + 2) zh rfl dL_law_611 (by omega) (by omega) ?_
  refine z_callVI (As := [.int (xs (j + 1)), .int (xs (j + 2))]) zh mv_Law_53 dL_law_612 ck_X rfl (v_X8_collateral g hG hR) ⟨(Nat.le_of_ble_eq_true rfl), (Nat.le_of_ble_eq_true rfl)⟩ rfl rfl (Nat.le_of_ble_eq_true rfl) ?_
  rintro _ iv lv ⟨hG, hM⟩
  refine z_pop zh dL_law_615 rfl ?_
  refine z_aloadnR zh dL_law_616 rfl ?_
  refine z_aloadn zh dL_law_617 rfl ?_
  refine z_iloadn zh dL_law_618 rfl ?_
  refine z_iconst zh dL_law_619 ki_1 ?_
  refine z_iaddN zh dL_law_620 ?_
  refine z_sld (j := j + 1) zh rfl dL_law_621 (by omega) (by omega) ?_
  refine z_aloadn zh dL_law_622 rfl ?_
  refine z_iloadn zh dL_law_623 rfl ?_
  refine z_iconst zh dL_law_624 ki_2 ?_
  refine z_iaddN zh dL_law_625 ?_
  refine z_sld (j := j + 2) zh rfl dL_law_626 (by omega) (by omega) ?_
  refine z_callVI (As := [.int (xs (j + 1)), .int (xs (j + 2))]) zh mv_Law_56 dL_law_627 ck_Y rfl (v_X9_collateral g hG hM) ⟨(Nat.le_of_ble_eq_true rfl), (Nat.le_of_ble_eq_true rfl)⟩ rfl rfl (Nat.le_of_ble_eq_true rfl) ?_
  rintro _ iv lv ⟨hG, hR, hp⟩
  refine z_pop zh dL_law_630 rfl ?_
  refine z_goto (tgt := 1481) zh dL_law_631 rfl ?_
  exact kk _ _ hG hR
theorem la_10 {g : GE} {b L j : Nat} {xs : Nat → Int32} {Q : Option Value → Iv → Lv → Prop} {Z : ZT} {iv : Iv} {lv : Lv} (zh : LRw g b L xs Q Z) (hj : j + 6 ≤ L) (hL : L ≤ 3072) (hG : SI s0 z0 iv) (hR : RV iv) (kk : ∀ iv lv, SI s0 z0 iv → RV iv → Z 1481 (LwC g b j) [] iv lv) : Z 634 (LwC g b j) [] iv lv := by
  refine z_aloadnR zh dL_law_634 rfl ?_
  refine z_aloadn zh dL_law_635 rfl ?_
  refine z_iloadn zh dL_law_636 rfl ?_
  refine z_iconst zh dL_law_637 ki_1 ?_
  refine z_iaddN zh dL_law_638 ?_
  refine z_sld (j := j + 1) zh rfl dL_law_639 (by omega) (by omega) ?_
  refine z_callVI (As := [.int (xs (j + 1))]) zh mv_Law_57 dL_law_640 ck_X rfl (v_X8_night g hG hR) ⟨(Nat.le_of_ble_eq_true rfl), (Nat.le_of_ble_eq_true rfl)⟩ rfl rfl (Nat.le_of_ble_eq_true rfl) ?_
  rintro _ iv lv ⟨hG, hM⟩
  refine z_pop zh dL_law_643 rfl ?_
  refine z_aloadnR zh dL_law_644 rfl ?_
  refine z_aloadn zh dL_law_645 rfl ?_
  refine z_iloadn zh dL_law_646 rfl ?_
  refine z_iconst zh dL_law_647 ki_1 ?_
  refine z_iaddN zh dL_law_648 ?_
  refine z_sld (j := j + 1) zh rfl dL_law_649 (by omega) (by omega) ?_
  refine z_callVI (As := [.int (xs (j + 1))]) zh mv_Law_61 dL_law_650 ck_Y rfl (v_X9_night g hG hM) ⟨(Nat.le_of_ble_eq_true rfl), (Nat.le_of_ble_eq_true rfl)⟩ rfl rfl (Nat.le_of_ble_eq_true rfl) ?_
  rintro _ iv lv ⟨hG, hR, hp⟩
  refine z_pop zh dL_law_653 rfl ?_
  refine z_goto (tgt := 1481) zh dL_law_654 rfl ?_
  exact kk _ _ hG hR
theorem la_11 {g : GE} {b L j : Nat} {xs : Nat → Int32} {Q : Option Value → Iv → Lv → Prop} {Z : ZT} {iv : Iv} {lv : Lv} (zh : LRw g b L xs Q Z) (hj : j + 6 ≤ L) (hL : L ≤ 3072) (hG : SI s0 z0 iv) (hR : RV iv) (kk : ∀ iv lv, SI s0 z0 iv → RV iv → Z 1481 (LwC g b j) [] iv lv) : Z 657 (LwC g b j) [] iv lv := by
  refine z_aloadnR zh dL_law_657 rfl ?_
  refine z_aloadn zh dL_law_658 rfl ?_
  refine z_iloadn zh dL_law_659 rfl ?_
  refine z_iconst zh dL_law_660 ki_1 ?_
  refine z_iaddN zh dL_law_661 ?_
  refine z_sld (j := j + 1) zh rfl dL_law_662 (by omega) (by omega) ?_
  refine z_aloadn zh dL_law_663 rfl ?_
  refine z_iloadn zh dL_law_664 rfl ?_
  refine z_iconst zh dL_law_665 ki_2 ?_
  refine z_iaddN zh dL_law_666 ?_
  refine z_sld (j := j + 2) zh rfl dL_law_667 (by omega) (by omega) ?_
  refine z_aloadn zh dL_law_668 rfl ?_
  refine z_iloadn zh dL_law_669 rfl ?_
  refine z_iconst zh dL_law_670 ki_3 ?_
  refine z_iaddN zh dL_law_671 ?_
  refine z_sld (j := j + 3) zh rfl dL_law_672 (by omega) (by omega) ?_
  refine z_callVI (As := [.int (xs (j + 1)), .int (xs (j + 2)), .int (xs (j + 3))]) zh mv_Law_62 dL_law_673 ck_X rfl (k_X8_give g (si_u (rm := rmN) hG) spU_k) ⟨(Nat.le_of_ble_eq_true rfl), (Nat.le_of_ble_eq_true rfl)⟩ rfl rfl (Nat.le_of_ble_eq_true rfl) ?_
  rintro _ iv lv ⟨hS, _⟩
  have hR := rv_fr hS hR
  have hG := si_0 hS
  refine z_pop zh dL_law_676 rfl ?_
  refine z_aloadnR zh dL_law_677 rfl ?_
  refine z_aloadn zh dL_law_678 rfl ?_
  refine z_iloadn zh dL_law_679 rfl ?_
  refine z_iconst zh dL_law_680 ki_1 ?_
  refine z_iaddN zh dL_law_681 ?_
  refine z_sld (j := j + 1) zh rfl dL_law_682 (by omega) (by omega) ?_
  refine z_aloadn zh dL_law_683 rfl ?_
  refine z_iloadn zh dL_law_684 rfl ?_
  refine z_iconst zh dL_law_685 ki_2 ?_
  refine z_iaddN zh dL_law_686 ?_
  refine z_sld (j := j + 2) zh rfl dL_law_687 (by omega) (by omega) ?_
  refine z_aloadn zh dL_law_688 rfl ?_
  refine z_iloadn zh dL_law_689 rfl ?_
  refine z_iconst zh dL_law_690 ki_3 ?_
  refine z_iaddN zh dL_law_691 ?_
  refine z_sld (j := j + 3) zh rfl dL_law_692 (by omega) (by omega) ?_
  refine z_callVI (As := [.int (xs (j + 1)), .int (xs (j + 2)), .int (xs (j + 3))]) zh mv_Law_66 dL_law_693 ck_Y rfl (k_X9_give g (si_u (rm := rmN) hG) spU_k) ⟨(Nat.le_of_ble_eq_true rfl), (Nat.le_of_ble_eq_true rfl)⟩ rfl rfl (Nat.le_of_ble_eq_true rfl) ?_
  rintro _ iv lv ⟨hS, _⟩
  have hR := rv_fr hS hR
  have hG := si_0 hS
  refine z_pop zh dL_law_696 rfl ?_
  refine z_goto (tgt := 1481) zh dL_law_697 rfl ?_
  exact kk _ _ hG hR
theorem la_12 {g : GE} {b L j : Nat} {xs : Nat → Int32} {Q : Option Value → Iv → Lv → Prop} {Z : ZT} {iv : Iv} {lv : Lv} (zh : LRw g b L xs Q Z) (hj : j + 6 ≤ L) (hL : L ≤ 3072) (hG : SI s0 z0 iv) (hR : RV iv) (kk : ∀ iv lv, SI s0 z0 iv → RV iv → Z 1481 (LwC g b j) [] iv lv) : Z 700 (LwC g b j) [] iv lv := by
  refine z_aloadnR zh dL_law_700 rfl ?_
  refine z_aloadn zh dL_law_701 rfl ?_
  refine z_iloadn zh dL_law_702 rfl ?_
  refine z_iconst zh dL_law_703 ki_1 ?_
  refine z_iaddN zh dL_law_704 ?_
  refine z_sld (j := j + 1) zh rfl dL_law_705 (by omega) (by omega) ?_
  refine z_callVI (As := [.int (xs (j + 1))]) zh mv_Law_67 dL_law_706 ck_X rfl (k_X8_call g (si_u (rm := rmN) hG) spU_k) ⟨(Nat.le_of_ble_eq_true rfl), (Nat.le_of_ble_eq_true rfl)⟩ rfl rfl (Nat.le_of_ble_eq_true rfl) ?_
  rintro _ iv lv ⟨hS, _⟩
  have hR := rv_fr hS hR
  have hG := si_0 hS
  refine z_pop zh dL_law_709 rfl ?_
  refine z_aloadnR zh dL_law_710 rfl ?_
  refine z_aloadn zh dL_law_711 rfl ?_
  refine z_iloadn zh dL_law_712 rfl ?_
  refine z_iconst zh dL_law_713 ki_1 ?_
  refine z_iaddN zh dL_law_714 ?_
  refine z_sld (j := j + 1) zh rfl dL_law_715 (by omega) (by omega) ?_
  refine z_callVI (As := [.int (xs (j + 1))]) zh mv_Law_70 dL_law_716 ck_Y rfl (k_X9_call g (si_u (rm := rmN) hG) spU_k) ⟨(Nat.le_of_ble_eq_true rfl), (Nat.le_of_ble_eq_true rfl)⟩ rfl rfl (Nat.le_of_ble_eq_true rfl) ?_
  rintro _ iv lv ⟨hS, _⟩
  have hR := rv_fr hS hR
  have hG := si_0 hS
  refine z_pop zh dL_law_719 rfl ?_
  refine z_goto (tgt := 1481) zh dL_law_720 rfl ?_
  exact kk _ _ hG hR
theorem la_13 {g : GE} {b L j : Nat} {xs : Nat → Int32} {Q : Option Value → Iv → Lv → Prop} {Z : ZT} {iv : Iv} {lv : Lv} (zh : LRw g b L xs Q Z) (hj : j + 6 ≤ L) (hL : L ≤ 3072) (hG : SI s0 z0 iv) (hR : RV iv) (kk : ∀ iv lv, SI s0 z0 iv → RV iv → Z 1481 (LwC g b j) [] iv lv) : Z 723 (LwC g b j) [] iv lv := by
  refine z_aloadnR zh dL_law_723 rfl ?_
  refine z_aloadn zh dL_law_724 rfl ?_
  refine z_iloadn zh dL_law_725 rfl ?_
  refine z_iconst zh dL_law_726 ki_1 ?_
  refine z_iaddN zh dL_law_727 ?_
  refine z_sld (j := j + 1) zh rfl dL_law_728 (by omega) (by omega) ?_
  refine z_aloadn zh dL_law_729 rfl ?_
  refine z_iloadn zh dL_law_730 rfl ?_
  refine z_iconst zh dL_law_731 ki_2 ?_
  refine z_iaddN zh dL_law_732 ?_
  refine z_sld (j := j + 2) zh rfl dL_law_733 (by omega) (by omega) ?_
  refine z_aloadn zh dL_law_734 rfl ?_
  refine z_iloadn zh dL_law_735 rfl ?_
  refine z_iconst zh dL_law_736 ki_3 ?_
  refine z_iaddN zh dL_law_737 ?_
  refine z_sld (j := j + 3) zh rfl dL_law_738 (by omega) (by omega) ?_
  refine z_aloadn zh dL_law_739 rfl ?_
  refine z_iloadn zh dL_law_740 rfl ?_
  refine z_iconst zh dL_law_741 ki_4 ?_
  refine z_iaddN zh dL_law_742 ?_
  refine z_sld (j := j + 4) zh rfl dL_law_743 (by omega) (by omega) ?_
  refine z_aloadn zh dL_law_744 rfl ?_
  refine z_iloadn zh dL_law_745 rfl ?_
  refine z_iconst zh dL_law_746 ki_5 ?_
  refine z_iaddN zh dL_law_747 ?_
  refine z_sld (j := j + 5) zh rfl dL_law_748 (by omega) (by omega) ?_
  refine z_callVI (As := [.int (xs (j + 1)), .int (xs (j + 2)), .int (xs (j + 3)), .int (xs (j + 4)), .int (xs (j + 5))]) zh mv_Law_71 dL_law_749 ck_X rfl (v_X8_feed g hG hR) ⟨(Nat.le_of_ble_eq_true rfl), (Nat.le_of_ble_eq_true rfl)⟩ rfl rfl (Nat.le_of_ble_eq_true rfl) ?_
  rintro _ iv lv ⟨hG, hM⟩
  refine z_pop zh dL_law_752 rfl ?_
  refine z_aloadnR zh dL_law_753 rfl ?_
  refine z_aloadn zh dL_law_754 rfl ?_
  refine z_iloadn zh dL_law_755 rfl ?_
  refine z_iconst zh dL_law_756 ki_1 ?_
  refine z_iaddN zh dL_law_757 ?_
  refine z_sld (j := j + 1) zh rfl dL_law_758 (by omega) (by omega) ?_
  refine z_aloadn zh dL_law_759 rfl ?_
  refine z_iloadn zh dL_law_760 rfl ?_
  refine z_iconst zh dL_law_761 ki_2 ?_
  refine z_iaddN zh dL_law_762 ?_
  refine z_sld (j := j + 2) zh rfl dL_law_763 (by omega) (by omega) ?_
  refine z_aloadn zh dL_law_764 rfl ?_
  refine z_iloadn zh dL_law_765 rfl ?_
  refine z_iconst zh dL_law_766 ki_3 ?_
  refine z_iaddN zh dL_law_767 ?_
  refine z_sld (j := j + 3) zh rfl dL_law_768 (by omega) (by omega) ?_
  refine z_aloadn zh dL_law_769 rfl ?_
  refine z_iloadn zh dL_law_770 rfl ?_
  refine z_iconst zh dL_law_771 ki_4 ?_
  refine z_iaddN zh dL_law_772 ?_
  refine z_sld (j := j + 4) zh rfl dL_law_773 (by omega) (by omega) ?_
  refine z_aloadn zh dL_law_774 rfl ?_
  refine z_iloadn zh dL_law_775 rfl ?_
  refine z_iconst zh dL_law_776 ki_5 ?_
  refine z_iaddN zh dL_law_777 ?_
  refine z_sld (j := j + 5) zh rfl dL_law_778 (by omega) (by omega) ?_
  refine z_callVI (As := [.int (xs (j + 1)), .int (xs (j + 2)), .int (xs (j + 3)), .int (xs (j + 4)), .int (xs (j + 5))]) zh mv_Law_74 dL_law_779 ck_Y rfl (v_X9_feed g hG hM) ⟨(Nat.le_of_ble_eq_true rfl), (Nat.le_of_ble_eq_true rfl)⟩ rfl rfl (Nat.le_of_ble_eq_true rfl) ?_
  rintro _ iv lv ⟨hG, hR, hp⟩
  refine z_pop zh dL_law_782 rfl ?_
  refine z_goto (tgt := 1481) zh dL_law_783 rfl ?_
  exact kk _ _ hG hR
theorem la_14 {g : GE} {b L j : Nat} {xs : Nat → Int32} {Q : Option Value → Iv → Lv → Prop} {Z : ZT} {iv : Iv} {lv : Lv} (zh : LRw g b L xs Q Z) (hj : j + 6 ≤ L) (hL : L ≤ 3072) (hG : SI s0 z0 iv) (hR : RV iv) (kk : ∀ iv lv, SI s0 z0 iv → RV iv → Z 1481 (LwC g b j) [] iv lv) : Z 786 (LwC g b j) [] iv lv := by
  refine z_aloadnR zh dL_law_786 rfl ?_
  refine z_aloadn zh dL_law_787 rfl ?_
  refine z_iloadn zh dL_law_788 rfl ?_
  refine z_iconst zh dL_law_789 ki_1 ?_
  refine z_iaddN zh dL_law_790 ?_
  refine z_sld (j := j + 1) zh rfl dL_law_791 (by omega) (by omega) ?_
  refine z_callVI (As := [.int (xs (j + 1))]) zh mv_Law_75 dL_law_792 ck_X rfl (v_X8_end g hG hR) ⟨(Nat.le_of_ble_eq_true rfl), (Nat.le_of_ble_eq_true rfl)⟩ rfl rfl (Nat.le_of_ble_eq_true rfl) ?_
  rintro _ iv lv ⟨hG, hM⟩
  refine z_pop zh dL_law_795 rfl ?_
  refine z_aloadnR zh dL_law_796 rfl ?_
  refine z_aloadn zh dL_law_797 rfl ?_
  refine z_iloadn zh dL_law_798 rfl ?_
  refine z_iconst zh dL_law_799 ki_1 ?_
  refine z_iaddN zh dL_law_800 ?_
  refine z_sld (j := j + 1) zh rfl dL_law_801 (by omega) (by omega) ?_
  refine z_callVI (As := [.int (xs (j + 1))]) zh mv_Law_79 dL_law_802 ck_Y rfl (v_X9_end g hG hM) ⟨(Nat.le_of_ble_eq_true rfl), (Nat.le_of_ble_eq_true rfl)⟩ rfl rfl (Nat.le_of_ble_eq_true rfl) ?_
  rintro _ iv lv ⟨hG, hR, hp⟩
  refine z_pop zh dL_law_805 rfl ?_
  refine z_goto (tgt := 1481) zh dL_law_806 rfl ?_
  exact kk _ _ hG hR
theorem la_15 {g : GE} {b L j : Nat} {xs : Nat → Int32} {Q : Option Value → Iv → Lv → Prop} {Z : ZT} {iv : Iv} {lv : Lv} (zh : LRw g b L xs Q Z) (hj : j + 6 ≤ L) (hL : L ≤ 3072) (hG : SI s0 z0 iv) (hR : RV iv) (kk : ∀ iv lv, SI s0 z0 iv → RV iv → Z 1481 (LwC g b j) [] iv lv) : Z 809 (LwC g b j) [] iv lv := by
  refine z_aloadnR zh dL_law_809 rfl ?_
  refine z_callVI (As := []) zh mv_Law_80 dL_law_810 ck_X rfl (v_X8_plan g hG hR) ⟨(Nat.le_of_ble_eq_true rfl), (Nat.le_of_ble_eq_true rfl)⟩ rfl rfl (Nat.le_of_ble_eq_true rfl) ?_
  rintro _ iv lv ⟨hG, hM⟩
  refine z_pop zh dL_law_813 rfl ?_
  refine z_aloadnR zh dL_law_814 rfl ?_
  refine z_callVI (As := []) zh mv_Law_84 dL_law_815 ck_Y rfl (v_X9_plan g hG hM) ⟨(Nat.le_of_ble_eq_true rfl), (Nat.le_of_ble_eq_true rfl)⟩ rfl rfl (Nat.le_of_ble_eq_true rfl) ?_
  rintro _ iv lv ⟨hG, hR, hp⟩
  refine z_pop zh dL_law_818 rfl ?_
  refine z_goto (tgt := 1481) zh dL_law_819 rfl ?_
  exact kk _ _ hG hR
theorem la_16 {g : GE} {b L j : Nat} {xs : Nat → Int32} {Q : Option Value → Iv → Lv → Prop} {Z : ZT} {iv : Iv} {lv : Lv} (zh : LRw g b L xs Q Z) (hj : j + 6 ≤ L) (hL : L ≤ 3072) (hG : SI s0 z0 iv) (hR : RV iv) (kk : ∀ iv lv, SI s0 z0 iv → RV iv → Z 1481 (LwC g b j) [] iv lv) : Z 822 (LwC g b j) [] iv lv := by
  refine z_aloadnR zh dL_law_822 rfl ?_
  refine z_aloadn zh dL_law_823 rfl ?_
  refine z_iloadn zh dL_law_824 rfl ?_
  refine z_iconst zh dL_law_825 ki_1 ?_
  refine z_iaddN zh dL_law_826 ?_
  refine z_sld (j := j + 1) zh rfl dL_law_827 (by omega) (by omega) ?_
  refine z_callVI (As := [.int (xs (j + 1))]) zh mv_Law_85 dL_law_828 ck_X rfl (v_X8_fault g hG hR) ⟨(Nat.le_of_ble_eq_true rfl), (Nat.le_of_ble_eq_true rfl)⟩ rfl rfl (Nat.le_of_ble_eq_true rfl) ?_
  rintro _ iv lv ⟨hG, hM⟩
  refine z_pop zh dL_law_831 rfl ?_
  refine z_aloadnR zh dL_law_832 rfl ?_
  refine z_aloadn zh dL_law_833 rfl ?_
  refine z_iloadn zh dL_law_834 rfl ?_
  refine z_iconst zh dL_law_835 ki_1 ?_
  refine z_iaddN zh dL_law_836 ?_
  refine z_sld (j := j + 1) zh rfl dL_law_837 (by omega) (by omega) ?_
  refine z_callVI (As := [.int (xs (j + 1))]) zh mv_Law_88 dL_law_838 ck_Y rfl (v_X9_fault g hG hM) ⟨(Nat.le_of_ble_eq_true rfl), (Nat.le_of_ble_eq_true rfl)⟩ rfl rfl (Nat.le_of_ble_eq_true rfl) ?_
  rintro _ iv lv ⟨hG, hR, hp⟩
  refine z_pop zh dL_law_841 rfl ?_
  refine z_goto (tgt := 1481) zh dL_law_842 rfl ?_
  exact kk _ _ hG hR
theorem la_17 {g : GE} {b L j : Nat} {xs : Nat → Int32} {Q : Option Value → Iv → Lv → Prop} {Z : ZT} {iv : Iv} {lv : Lv} (zh : LRw g b L xs Q Z) (hj : j + 6 ≤ L) (hL : L ≤ 3072) (hG : SI s0 z0 iv) (hR : RV iv) (kk : ∀ iv lv, SI s0 z0 iv → RV iv → Z 1481 (LwC g b j) [] iv lv) : Z 845 (LwC g b j) [] iv lv := by
  refine z_aloadnR zh dL_law_845 rfl ?_
  refine z_aloadn zh dL_law_846 rfl ?_
  refine z_iloadn zh dL_law_847 rfl ?_
  refine z_iconst zh dL_law_848 ki_1 ?_
  refine z_iaddN zh dL_law_849 ?_
  refine z_sld (j := j + 1) zh rfl dL_law_850 (by omega) (by omega) ?_
  refine z_callVI (As := [.int (xs (j + 1))]) zh mv_Law_89 dL_law_851 ck_X rfl (v_X8_run g hG hR) ⟨(Nat.le_of_ble_eq_true rfl), (Nat.le_of_ble_eq_true rfl)⟩ rfl rfl (Nat.le_of_ble_eq_true rfl) ?_
  rintro _ iv lv ⟨hG, hM⟩
  refine z_pop zh dL_law_854 rfl ?_
  refine z_aloadnR zh dL_law_855 rfl ?_
  refine z_aloadn zh dL_law_856 rfl ?_
  refine z_iloadn zh dL_law_857 rfl ?_
  refine z_iconst zh dL_law_858 ki_1 ?_
  refine z_iaddN zh dL_law_859 ?_
  refine z_sld (j := j + 1) zh rfl dL_law_860 (by omega) (by omega) ?_
  refine z_callVI (As := [.int (xs (j + 1))]) zh mv_Law_92 dL_law_861 ck_Y rfl (v_X9_run g hG hM) ⟨(Nat.le_of_ble_eq_true rfl), (Nat.le_of_ble_eq_true rfl)⟩ rfl rfl (Nat.le_of_ble_eq_true rfl) ?_
  rintro _ iv lv ⟨hG, hR⟩
  refine z_pop zh dL_law_864 rfl ?_
  refine z_goto (tgt := 1481) zh dL_law_865 rfl ?_
  exact kk _ _ hG hR
theorem la_18 {g : GE} {b L j : Nat} {xs : Nat → Int32} {Q : Option Value → Iv → Lv → Prop} {Z : ZT} {iv : Iv} {lv : Lv} (zh : LRw g b L xs Q Z) (hj : j + 6 ≤ L) (hL : L ≤ 3072) (hG : SI s0 z0 iv) (hR : RV iv) (kk : ∀ iv lv, SI s0 z0 iv → RV iv → Z 1481 (LwC g b j) [] iv lv) : Z 868 (LwC g b j) [] iv lv := by
  refine z_aloadnR zh dL_law_868 rfl ?_
  refine z_aloadn zh dL_law_869 rfl ?_
  refine z_iloadn zh dL_law_870 rfl ?_
  refine z_iconst zh dL_law_871 ki_1 ?_
  refine z_iaddN zh dL_law_872 ?_
  refine z_sld (j := j + 1) zh rfl dL_law_873 (by omega) (by omega) ?_
  refine z_aloadn zh dL_law_874 rfl ?_
  refine z_iloadn zh dL_law_875 rfl ?_
  refine z_iconst zh dL_law_876 ki_2 ?_
  refine z_iaddN zh dL_law_877 ?_
  refine z_sld (j := j + 2) zh rfl dL_law_878 (by omega) (by omega) ?_
  refine z_aloadn zh dL_law_879 rfl ?_
  refine z_iloadn zh dL_law_880 rfl ?_
  refine z_iconst zh dL_law_881 ki_3 ?_
  refine z_iaddN zh dL_law_882 ?_
  refine z_sld (j := j + 3) zh rfl dL_law_883 (by omega) (by omega) ?_
  refine z_callVI (As := [.int (xs (j + 1)), .int (xs (j + 2)), .int (xs (j + 3))]) zh mv_Law_93 dL_law_884 ck_X rfl (s_X8_at g (si_u (rm := rmN) hG)) ⟨(Nat.le_of_ble_eq_true rfl), (Nat.le_of_ble_eq_true rfl)⟩ rfl rfl (Nat.le_of_ble_eq_true rfl) ?_
  rintro _ _ _ ⟨rfl, rfl, _⟩
  refine z_pop zh dL_law_887 rfl ?_
  refine z_aloadnR zh dL_law_888 rfl ?_
  refine z_aloadn zh dL_law_889 rfl ?_
  refine z_iloadn zh dL_law_890 rfl ?_
  refine z_iconst zh dL_law_891 ki_1 ?_
  refine z_iaddN zh dL_law_892 ?_
  refine z_sld (j := j + 1) zh rfl dL_law_893 (by omega) (by omega) ?_
  refine z_aloadn zh dL_law_894 rfl ?_
  refine z_iloadn zh dL_law_895 rfl ?_
  refine z_iconst zh dL_law_896 ki_2 ?_
  refine z_iaddN zh dL_law_897 ?_
  refine z_sld (j := j + 2) zh rfl dL_law_898 (by omega) (by omega) ?_
  refine z_aloadn zh dL_law_899 rfl ?_
  refine z_iloadn zh dL_law_900 rfl ?_
  refine z_iconst zh dL_law_901 ki_3 ?_
  refine z_iaddN zh dL_law_902 ?_
  refine z_sld (j := j + 3) zh rfl dL_law_903 (by omega) (by omega) ?_
  refine z_callVI (As := [.int (xs (j + 1)), .int (xs (j + 2)), .int (xs (j + 3))]) zh mv_Law_96 dL_law_904 ck_Y rfl (s_X9_at g (si_u (rm := rmN) hG)) ⟨(Nat.le_of_ble_eq_true rfl), (Nat.le_of_ble_eq_true rfl)⟩ rfl rfl (Nat.le_of_ble_eq_true rfl) ?_
  rintro _ iv lv ⟨hS, _⟩
  have hR := rv_fr hS hR
  have hG := si_0 hS
  refine z_pop zh dL_law_907 rfl ?_
  refine z_goto (tgt := 1481) zh dL_law_908 rfl ?_
  exact kk _ _ hG hR
theorem la_19 {g : GE} {b L j : Nat} {xs : Nat → Int32} {Q : Option Value → Iv → Lv → Prop} {Z : ZT} {iv : Iv} {lv : Lv} (zh : LRw g b L xs Q Z) (hj : j + 6 ≤ L) (hL : L ≤ 3072) (hG : SI s0 z0 iv) (hR : RV iv) (kk : ∀ iv lv, SI s0 z0 iv → RV iv → Z 1481 (LwC g b j) [] iv lv) : Z 911 (LwC g b j) [] iv lv := by
  refine z_aloadnR zh dL_law_911 rfl ?_
  refine z_aloadn zh dL_law_912 rfl ?_
  refine z_iloadn zh dL_law_913 rfl ?_
  refine z_iconst zh dL_law_914 ki_1 ?_
  refine z_iaddN zh dL_law_915 ?_
  refine z_sld (j := j + 1) zh rfl dL_law_916 (by omega) (by omega) ?_
  refine z_aloadn zh dL_law_917 rfl ?_
  refine z_iloadn zh dL_law_918 rfl ?_
  refine z_iconst zh dL_law_919 ki_2 ?_
  refine z_iaddN zh dL_law_920 ?_
  refine z_sld (j := j + 2) zh rfl dL_law_921 (by omega) (by omega) ?_
  refine z_aloadn zh dL_law_922 rfl ?_
  refine z_iloadn zh dL_law_923 rfl ?_
  refine z_iconst zh dL_law_924 ki_3 ?_
  refine z_iaddN zh dL_law_925 ?_
  refine z_sld (j := j + 3) zh rfl dL_law_926 (by omega) (by omega) ?_
  refine z_aloadn zh dL_law_927 rfl ?_
  refine z_iloadn zh dL_law_928 rfl ?_
  refine z_iconst zh dL_law_929 ki_4 ?_
  refine z_iaddN zh dL_law_930 ?_
  refine z_sld (j := j + 4) zh rfl dL_law_931 (by omega) (by omega) ?_
  refine z_callVI (As := [.int (xs (j + 1)), .int (xs (j + 2)), .int (xs (j + 3)), .int (xs (j + 4))]) zh mv_Law_97 dL_law_932 ck_X rfl (s_X8_lot g (si_u (rm := rmN) hG)) ⟨(Nat.le_of_ble_eq_true rfl), (Nat.le_of_ble_eq_true rfl)⟩ rfl rfl (Nat.le_of_ble_eq_true rfl) ?_
  rintro _ _ _ ⟨rfl, rfl, _⟩
  refine z_pop zh dL_law_935 rfl ?_
  refine z_aloadnR zh dL_law_936 rfl ?_
  refine z_aloadn zh dL_law_937 rfl ?_
  refine z_iloadn zh dL_law_938 rfl ?_
  refine z_iconst zh dL_law_939 ki_1 ?_
  refine z_iaddN zh dL_law_940 ?_
  refine z_sld (j := j + 1) zh rfl dL_law_941 (by omega) (by omega) ?_
  refine z_aloadn zh dL_law_942 rfl ?_
  refine z_iloadn zh dL_law_943 rfl ?_
  refine z_iconst zh dL_law_944 ki_2 ?_
  refine z_iaddN zh dL_law_945 ?_
  refine z_sld (j := j + 2) zh rfl dL_law_946 (by omega) (by omega) ?_
  refine z_aloadn zh dL_law_947 rfl ?_
  refine z_iloadn zh dL_law_948 rfl ?_
  refine z_iconst zh dL_law_949 ki_3 ?_
  refine z_iaddN zh dL_law_950 ?_
  refine z_sld (j := j + 3) zh rfl dL_law_951 (by omega) (by omega) ?_
  refine z_aloadn zh dL_law_952 rfl ?_
  refine z_iloadn zh dL_law_953 rfl ?_
  refine z_iconst zh dL_law_954 ki_4 ?_
  refine z_iaddN zh dL_law_955 ?_
  refine z_sld (j := j + 4) zh rfl dL_law_956 (by omega) (by omega) ?_
  refine z_callVI (As := [.int (xs (j + 1)), .int (xs (j + 2)), .int (xs (j + 3)), .int (xs (j + 4))]) zh mv_Law_101 dL_law_957 ck_Y rfl (s_X9_lot g (si_u (rm := rmN) hG)) ⟨(Nat.le_of_ble_eq_true rfl), (Nat.le_of_ble_eq_true rfl)⟩ rfl rfl (Nat.le_of_ble_eq_true rfl) ?_
  rintro _ iv lv ⟨hS, _⟩
  have hR := rv_fr hS hR
  have hG := si_0 hS
  refine z_pop zh dL_law_960 rfl ?_
  refine z_goto (tgt := 1481) zh dL_law_961 rfl ?_
  exact kk _ _ hG hR
theorem la_20 {g : GE} {b L j : Nat} {xs : Nat → Int32} {Q : Option Value → Iv → Lv → Prop} {Z : ZT} {iv : Iv} {lv : Lv} (zh : LRw g b L xs Q Z) (hj : j + 6 ≤ L) (hL : L ≤ 3072) (hG : SI s0 z0 iv) (hR : RV iv) (kk : ∀ iv lv, SI s0 z0 iv → RV iv → Z 1481 (LwC g b j) [] iv lv) : Z 964 (LwC g b j) [] iv lv := by
  refine z_aloadnR zh dL_law_964 rfl ?_
  refine z_aloadn zh dL_law_965 rfl ?_
  refine z_iloadn zh dL_law_966 rfl ?_
  refine z_iconst zh dL_law_967 ki_1 ?_
  refine z_iaddN zh dL_law_968 ?_
  refine z_sld (j := j + 1) zh rfl dL_law_969 (by omega) (by omega) ?_
  refine z_callVL (As := [.int (xs (j + 1))]) zh mv_Law_102 dL_law_970 ck_X rfl (s_X8_cash g (si_u (rm := rmN) hG)) ⟨(Nat.le_of_ble_eq_true rfl), (Nat.le_of_ble_eq_true rfl)⟩ rfl rfl (Nat.le_of_ble_eq_true rfl) ?_
  rintro _ _ _ ⟨rfl, rfl, _⟩
  refine z_pop2 zh dL_law_973 rfl ?_
  refine z_aloadnR zh dL_law_974 rfl ?_
  refine z_aloadn zh dL_law_975 rfl ?_
  refine z_iloadn zh dL_law_976 rfl ?_
  refine z_iconst zh dL_law_977 ki_1 ?_
  refine z_iaddN zh dL_law_978 ?_
  refine z_sld (j := j + 1) zh rfl dL_law_979 (by omega) (by omega) ?_
  refine z_callVL (As := [.int (xs (j + 1))]) zh mv_Law_106 dL_law_980 ck_Y rfl (s_X9_cash g (si_u (rm := rmN) hG)) ⟨(Nat.le_of_ble_eq_true rfl), (Nat.le_of_ble_eq_true rfl)⟩ rfl rfl (Nat.le_of_ble_eq_true rfl) ?_
  rintro _ iv lv ⟨hS, _⟩
  have hR := rv_fr hS hR
  have hG := si_0 hS
  refine z_pop2 zh dL_law_983 rfl ?_
  refine z_goto (tgt := 1481) zh dL_law_984 rfl ?_
  exact kk _ _ hG hR
theorem la_21 {g : GE} {b L j : Nat} {xs : Nat → Int32} {Q : Option Value → Iv → Lv → Prop} {Z : ZT} {iv : Iv} {lv : Lv} (zh : LRw g b L xs Q Z) (hj : j + 6 ≤ L) (hL : L ≤ 3072) (hG : SI s0 z0 iv) (hR : RV iv) (kk : ∀ iv lv, SI s0 z0 iv → RV iv → Z 1481 (LwC g b j) [] iv lv) : Z 987 (LwC g b j) [] iv lv := by
  refine z_aloadnR zh dL_law_987 rfl ?_
  refine z_aloadn zh dL_law_988 rfl ?_
  refine z_iloadn zh dL_law_989 rfl ?_
  refine z_iconst zh dL_law_990 ki_1 ?_
  refine z_iaddN zh dL_law_991 ?_
  refine z_sld (j := j + 1) zh rfl dL_law_992 (by omega) (by omega) ?_
  refine z_aloadn zh dL_law_993 rfl ?_
  refine z_iloadn zh dL_law_994 rfl ?_
  refine z_iconst zh dL_law_995 ki_2 ?_
  refine z_iaddN zh dL_law_996 ?_
  refine z_sld (j := j + 2) zh rfl dL_law_997 (by omega) (by omega) ?_
  refine z_callVI (As := [.int (xs (j + 1)), .int (xs (j + 2))]) zh mv_Law_107 dL_law_998 ck_X rfl (s_X8_deal g (si_u (rm := rmN) hG)) ⟨(Nat.le_of_ble_eq_true rfl), (Nat.le_of_ble_eq_true rfl)⟩ rfl rfl (Nat.le_of_ble_eq_true rfl) ?_
  rintro _ _ _ ⟨rfl, rfl, _⟩
  refine z_pop zh dL_law_1001 rfl ?_
  refine z_aloadnR zh dL_law_1002 rfl ?_
  refine z_aloadn zh dL_law_1003 rfl ?_
  refine z_iloadn zh dL_law_1004 rfl ?_
  refine z_iconst zh dL_law_1005 ki_1 ?_
  refine z_iaddN zh dL_law_1006 ?_
  refine z_sld (j := j + 1) zh rfl dL_law_1007 (by omega) (by omega) ?_
  refine z_aloadn zh dL_law_1008 rfl ?_
  refine z_iloadn zh dL_law_1009 rfl ?_
  refine z_iconst zh dL_law_1010 ki_2 ?_
  refine z_iaddN zh dL_law_1011 ?_
  refine z_sld (j := j + 2) zh rfl dL_law_1012 (by omega) (by omega) ?_
  refine z_callVI (As := [.int (xs (j + 1)), .int (xs (j + 2))]) zh mv_Law_111 dL_law_1013 ck_Y rfl (s_X9_deal g (si_u (rm := rmN) hG)) ⟨(Nat.le_of_ble_eq_true rfl), (Nat.le_of_ble_eq_true rfl)⟩ rfl rfl (Nat.le_of_ble_eq_true rfl) ?_
  rintro _ iv lv ⟨hS, _⟩
  have hR := rv_fr hS hR
  have hG := si_0 hS
  refine z_pop zh dL_law_1016 rfl ?_
  refine z_goto (tgt := 1481) zh dL_law_1017 rfl ?_
  exact kk _ _ hG hR
theorem la_22 {g : GE} {b L j : Nat} {xs : Nat → Int32} {Q : Option Value → Iv → Lv → Prop} {Z : ZT} {iv : Iv} {lv : Lv} (zh : LRw g b L xs Q Z) (hj : j + 6 ≤ L) (hL : L ≤ 3072) (hG : SI s0 z0 iv) (hR : RV iv) (kk : ∀ iv lv, SI s0 z0 iv → RV iv → Z 1481 (LwC g b j) [] iv lv) : Z 1020 (LwC g b j) [] iv lv := by
  refine z_aloadnR zh dL_law_1020 rfl ?_
  refine z_aloadn zh dL_law_1021 rfl ?_
  refine z_iloadn zh dL_law_1022 rfl ?_
  refine z_iconst zh dL_law_1023 ki_1 ?_
  refine z_iaddN zh dL_law_1024 ?_
  refine z_sld (j := j + 1) zh rfl dL_law_1025 (by omega) (by omega) ?_
  refine z_aloadn zh dL_law_1026 rfl ?_
  refine z_iloadn zh dL_law_1027 rfl ?_
  refine z_iconst zh dL_law_1028 ki_2 ?_
  refine z_iaddN zh dL_law_1029 ?_
  refine z_sld (j := j + 2) zh rfl dL_law_1030 (by omega) (by omega) ?_
  refine z_callVI (As := [.int (xs (j + 1)), .int (xs (j + 2))]) zh mv_Law_112 dL_law_1031 ck_X rfl (s_X8_notice g (si_u (rm := rmN) hG)) ⟨(Nat.le_of_ble_eq_true rfl), (Nat.le_of_ble_eq_true rfl)⟩ rfl rfl (Nat.le_of_ble_eq_true rfl) ?_
  rintro _ _ _ ⟨rfl, rfl, _⟩
  refine z_pop zh dL_law_1034 rfl ?_
  refine z_aloadnR zh dL_law_1035 rfl ?_
  refine z_aloadn zh dL_law_1036 rfl ?_
  refine z_iloadn zh dL_law_1037 rfl ?_
  refine z_iconst zh dL_law_1038 ki_1 ?_
  refine z_iaddN zh dL_law_1039 ?_
  refine z_sld (j := j + 1) zh rfl dL_law_1040 (by omega) (by omega) ?_
  refine z_aloadn zh dL_law_1041 rfl ?_
  refine z_iloadn zh dL_law_1042 rfl ?_
  refine z_iconst zh dL_law_1043 ki_2 ?_
  refine z_iaddN zh dL_law_1044 ?_
  refine z_sld (j := j + 2) zh rfl dL_law_1045 (by omega) (by omega) ?_
  refine z_callVI (As := [.int (xs (j + 1)), .int (xs (j + 2))]) zh mv_Law_115 dL_law_1046 ck_Y rfl (s_X9_notice g (si_u (rm := rmN) hG)) ⟨(Nat.le_of_ble_eq_true rfl), (Nat.le_of_ble_eq_true rfl)⟩ rfl rfl (Nat.le_of_ble_eq_true rfl) ?_
  rintro _ iv lv ⟨hS, _⟩
  have hR := rv_fr hS hR
  have hG := si_0 hS
  refine z_pop zh dL_law_1049 rfl ?_
  refine z_goto (tgt := 1481) zh dL_law_1050 rfl ?_
  exact kk _ _ hG hR
theorem la_23 {g : GE} {b L j : Nat} {xs : Nat → Int32} {Q : Option Value → Iv → Lv → Prop} {Z : ZT} {iv : Iv} {lv : Lv} (zh : LRw g b L xs Q Z) (hj : j + 6 ≤ L) (hL : L ≤ 3072) (hG : SI s0 z0 iv) (hR : RV iv) (kk : ∀ iv lv, SI s0 z0 iv → RV iv → Z 1481 (LwC g b j) [] iv lv) : Z 1053 (LwC g b j) [] iv lv := by
  refine z_aloadnR zh dL_law_1053 rfl ?_
  refine z_aloadn zh dL_law_1054 rfl ?_
  refine z_iloadn zh dL_law_1055 rfl ?_
  refine z_iconst zh dL_law_1056 ki_1 ?_
  refine z_iaddN zh dL_law_1057 ?_
  refine z_sld (j := j + 1) zh rfl dL_law_1058 (by omega) (by omega) ?_
  refine z_aloadn zh dL_law_1059 rfl ?_
  refine z_iloadn zh dL_law_1060 rfl ?_
  refine z_iconst zh dL_law_1061 ki_2 ?_
  refine z_iaddN zh dL_law_1062 ?_
  refine z_sld (j := j + 2) zh rfl dL_law_1063 (by omega) (by omega) ?_
  refine z_callVI (As := [.int (xs (j + 1)), .int (xs (j + 2))]) zh mv_Law_116 dL_law_1064 ck_X rfl (s_X8_issue g (si_u (rm := rmN) hG)) ⟨(Nat.le_of_ble_eq_true rfl), (Nat.le_of_ble_eq_true rfl)⟩ rfl rfl (Nat.le_of_ble_eq_true rfl) ?_
  rintro _ _ _ ⟨rfl, rfl, _⟩
  refine z_pop zh dL_law_1067 rfl ?_
  refine z_aloadnR zh dL_law_1068 rfl ?_
  refine z_aloadn zh dL_law_1069 rfl ?_
  refine z_iloadn zh dL_law_1070 rfl ?_
  refine z_iconst zh dL_law_1071 ki_1 ?_
  refine z_iaddN zh dL_law_1072 ?_
  refine z_sld (j := j + 1) zh rfl dL_law_1073 (by omega) (by omega) ?_
  refine z_aloadn zh dL_law_1074 rfl ?_
  refine z_iloadn zh dL_law_1075 rfl ?_
  refine z_iconst zh dL_law_1076 ki_2 ?_
  refine z_iaddN zh dL_law_1077 ?_
  refine z_sld (j := j + 2) zh rfl dL_law_1078 (by omega) (by omega) ?_
  refine z_callVI (As := [.int (xs (j + 1)), .int (xs (j + 2))]) zh mv_Law_119 dL_law_1079 ck_Y rfl (s_X9_issue g (si_u (rm := rmN) hG)) ⟨(Nat.le_of_ble_eq_true rfl), (Nat.le_of_ble_eq_true rfl)⟩ rfl rfl (Nat.le_of_ble_eq_true rfl) ?_
  rintro _ iv lv ⟨hS, _⟩
  have hR := rv_fr hS hR
  have hG := si_0 hS
  refine z_pop zh dL_law_1082 rfl ?_
  refine z_goto (tgt := 1481) zh dL_law_1083 rfl ?_
  exact kk _ _ hG hR
theorem la_24 {g : GE} {b L j : Nat} {xs : Nat → Int32} {Q : Option Value → Iv → Lv → Prop} {Z : ZT} {iv : Iv} {lv : Lv} (zh : LRw g b L xs Q Z) (hj : j + 6 ≤ L) (hL : L ≤ 3072) (hG : SI s0 z0 iv) (hR : RV iv) (kk : ∀ iv lv, SI s0 z0 iv → RV iv → Z 1481 (LwC g b j) [] iv lv) : Z 1086 (LwC g b j) [] iv lv := by
  refine z_aloadnR zh dL_law_1086 rfl ?_
  refine z_aloadn zh dL_law_1087 rfl ?_
  refine z_iloadn zh dL_law_1088 rfl ?_
  refine z_iconst zh dL_law_1089 ki_1 ?_
  refine z_iaddN zh dL_law_1090 ?_
  refine z_sld (j := j + 1) zh rfl dL_law_1091 (by omega) (by omega) ?_
  refine z_aloadn zh dL_law_1092 rfl ?_
  refine z_iloadn zh dL_law_1093 rfl ?_
  refine z_iconst zh dL_law_1094 ki_2 ?_
  refine z_iaddN zh dL_law_1095 ?_
  refine z_sld (j := j + 2) zh rfl dL_law_1096 (by omega) (by omega) ?_
  refine z_callVI (As := [.int (xs (j + 1)), .int (xs (j + 2))]) zh mv_Law_120 dL_law_1097 ck_X rfl (s_X8_book g (si_u (rm := rmN) hG)) ⟨(Nat.le_of_ble_eq_true rfl), (Nat.le_of_ble_eq_true rfl)⟩ rfl rfl (Nat.le_of_ble_eq_true rfl) ?_
  rintro _ _ _ ⟨rfl, rfl, _⟩
  refine z_pop zh dL_law_1100 rfl ?_
  refine z_aloadnR zh dL_law_1101 rfl ?_
  refine z_aloadn zh dL_law_1102 rfl ?_
  refine z_iloadn zh dL_law_1103 rfl ?_
  refine z_iconst zh dL_law_1104 ki_1 ?_
  refine z_iaddN zh dL_law_1105 ?_
  refine z_sld (j := j + 1) zh rfl dL_law_1106 (by omega) (by omega) ?_
  refine z_aloadn zh dL_law_1107 rfl ?_
  refine z_iloadn zh dL_law_1108 rfl ?_
  refine z_iconst zh dL_law_1109 ki_2 ?_
  refine z_iaddN zh dL_law_1110 ?_
  refine z_sld (j := j + 2) zh rfl dL_law_1111 (by omega) (by omega) ?_
  refine z_callVI (As := [.int (xs (j + 1)), .int (xs (j + 2))]) zh mv_Law_123 dL_law_1112 ck_Y rfl (s_X9_book g (si_u (rm := rmN) hG)) ⟨(Nat.le_of_ble_eq_true rfl), (Nat.le_of_ble_eq_true rfl)⟩ rfl rfl (Nat.le_of_ble_eq_true rfl) ?_
  rintro _ iv lv ⟨hS, _⟩
  have hR := rv_fr hS hR
  have hG := si_0 hS
  refine z_pop zh dL_law_1115 rfl ?_
  refine z_goto (tgt := 1481) zh dL_law_1116 rfl ?_
  exact kk _ _ hG hR
theorem la_25 {g : GE} {b L j : Nat} {xs : Nat → Int32} {Q : Option Value → Iv → Lv → Prop} {Z : ZT} {iv : Iv} {lv : Lv} (zh : LRw g b L xs Q Z) (hj : j + 6 ≤ L) (hL : L ≤ 3072) (hG : SI s0 z0 iv) (hR : RV iv) (kk : ∀ iv lv, SI s0 z0 iv → RV iv → Z 1481 (LwC g b j) [] iv lv) : Z 1119 (LwC g b j) [] iv lv := by
  refine z_aloadnR zh dL_law_1119 rfl ?_
  refine z_aloadn zh dL_law_1120 rfl ?_
  refine z_iloadn zh dL_law_1121 rfl ?_
  refine z_iconst zh dL_law_1122 ki_1 ?_
  refine z_iaddN zh dL_law_1123 ?_
  refine z_sld (j := j + 1) zh rfl dL_law_1124 (by omega) (by omega) ?_
  refine z_aloadn zh dL_law_1125 rfl ?_
  refine z_iloadn zh dL_law_1126 rfl ?_
  refine z_iconst zh dL_law_1127 ki_2 ?_
  refine z_iaddN zh dL_law_1128 ?_
  refine z_sld (j := j + 2) zh rfl dL_law_1129 (by omega) (by omega) ?_
  refine z_callVL (As := [.int (xs (j + 1)), .int (xs (j + 2))]) zh mv_Law_124 dL_law_1130 ck_X rfl (s_X8_margin g (si_u (rm := rmN) hG)) ⟨(Nat.le_of_ble_eq_true rfl), (Nat.le_of_ble_eq_true rfl)⟩ rfl rfl (Nat.le_of_ble_eq_true rfl) ?_
  rintro _ _ _ ⟨rfl, rfl, _⟩
  refine z_pop2 zh dL_law_1133 rfl ?_
  refine z_aloadnR zh dL_law_1134 rfl ?_
  refine z_aloadn zh dL_law_1135 rfl ?_
  refine z_iloadn zh dL_law_1136 rfl ?_
  refine z_iconst zh dL_law_1137 ki_1 ?_
  refine z_iaddN zh dL_law_1138 ?_
  refine z_sld (j := j + 1) zh rfl dL_law_1139 (by omega) (by omega) ?_
  refine z_aloadn zh dL_law_1140 rfl ?_
  refine z_iloadn zh dL_law_1141 rfl ?_
  refine z_iconst zh dL_law_1142 ki_2 ?_
  refine z_iaddN zh dL_law_1143 ?_
  refine z_sld (j := j + 2) zh rfl dL_law_1144 (by omega) (by omega) ?_
  refine z_callVL (As := [.int (xs (j + 1)), .int (xs (j + 2))]) zh mv_Law_128 dL_law_1145 ck_Y rfl (s_X9_margin g (si_u (rm := rmN) hG)) ⟨(Nat.le_of_ble_eq_true rfl), (Nat.le_of_ble_eq_true rfl)⟩ rfl rfl (Nat.le_of_ble_eq_true rfl) ?_
  rintro _ iv lv ⟨hS, _⟩
  have hR := rv_fr hS hR
  have hG := si_0 hS
  refine z_pop2 zh dL_law_1148 rfl ?_
  refine z_goto (tgt := 1481) zh dL_law_1149 rfl ?_
  exact kk _ _ hG hR
theorem la_26 {g : GE} {b L j : Nat} {xs : Nat → Int32} {Q : Option Value → Iv → Lv → Prop} {Z : ZT} {iv : Iv} {lv : Lv} (zh : LRw g b L xs Q Z) (hj : j + 6 ≤ L) (hL : L ≤ 3072) (hG : SI s0 z0 iv) (hR : RV iv) (kk : ∀ iv lv, SI s0 z0 iv → RV iv → Z 1481 (LwC g b j) [] iv lv) : Z 1152 (LwC g b j) [] iv lv := by
  refine z_aloadnR zh dL_law_1152 rfl ?_
  refine z_aloadn zh dL_law_1153 rfl ?_
  refine z_iloadn zh dL_law_1154 rfl ?_
  refine z_iconst zh dL_law_1155 ki_1 ?_
  refine z_iaddN zh dL_law_1156 ?_
  refine z_sld (j := j + 1) zh rfl dL_law_1157 (by omega) (by omega) ?_
  refine z_callVI (As := [.int (xs (j + 1))]) zh mv_Law_129 dL_law_1158 ck_X rfl (s_X8_stress g (si_u (rm := rmN) hG)) ⟨(Nat.le_of_ble_eq_true rfl), (Nat.le_of_ble_eq_true rfl)⟩ rfl rfl (Nat.le_of_ble_eq_true rfl) ?_
  rintro _ _ _ ⟨rfl, rfl, _⟩
  refine z_pop zh dL_law_1161 rfl ?_
  refine z_aloadnR zh dL_law_1162 rfl ?_
  refine z_aloadn zh dL_law_1163 rfl ?_
  refine z_iloadn zh dL_law_1164 rfl ?_
  refine z_iconst zh dL_law_1165 ki_1 ?_
  refine z_iaddN zh dL_law_1166 ?_
  refine z_sld (j := j + 1) zh rfl dL_law_1167 (by omega) (by omega) ?_
  refine z_callVI (As := [.int (xs (j + 1))]) zh mv_Law_132 dL_law_1168 ck_Y rfl (s_X9_stress g (si_u (rm := rmN) hG)) ⟨(Nat.le_of_ble_eq_true rfl), (Nat.le_of_ble_eq_true rfl)⟩ rfl rfl (Nat.le_of_ble_eq_true rfl) ?_
  rintro _ iv lv ⟨hS, _⟩
  have hR := rv_fr hS hR
  have hG := si_0 hS
  refine z_pop zh dL_law_1171 rfl ?_
  refine z_goto (tgt := 1481) zh dL_law_1172 rfl ?_
  exact kk _ _ hG hR
theorem la_27 {g : GE} {b L j : Nat} {xs : Nat → Int32} {Q : Option Value → Iv → Lv → Prop} {Z : ZT} {iv : Iv} {lv : Lv} (zh : LRw g b L xs Q Z) (hj : j + 6 ≤ L) (hL : L ≤ 3072) (hG : SI s0 z0 iv) (hR : RV iv) (kk : ∀ iv lv, SI s0 z0 iv → RV iv → Z 1481 (LwC g b j) [] iv lv) : Z 1175 (LwC g b j) [] iv lv := by
  refine z_aloadnR zh dL_law_1175 rfl ?_
  refine z_aloadn zh dL_law_1176 rfl ?_
  refine z_iloadn zh dL_law_1177 rfl ?_
  refine z_iconst zh dL_law_1178 ki_1 ?_
  refine z_iaddN zh dL_law_1179 ?_
  refine z_sld (j := j + 1) zh rfl dL_law_1180 (by omega) (by omega) ?_
  refine z_aloadn zh dL_law_1181 rfl ?_
  refine z_iloadn zh dL_law_1182 rfl ?_
  refine z_iconst zh dL_law_1183 ki_2 ?_
  refine z_iaddN zh dL_law_1184 ?_
  refine z_sld (j := j + 2) zh rfl dL_law_1185 (by omega) (by omega) ?_
  refine z_aloadn zh dL_law_1186 rfl ?_
  refine z_iloadn zh dL_law_1187 rfl ?_
  refine z_iconst zh dL_law_1188 ki_3 ?_
  refine z_iaddN zh dL_law_1189 ?_
  refine z_sld (j := j + 3) zh rfl dL_law_1190 (by omega) (by omega) ?_
  refine z_callVI (As := [.int (xs (j + 1)), .int (xs (j + 2)), .int (xs (j + 3))]) zh mv_Law_133 dL_law_1191 ck_X rfl (s_X8_queue g (si_u (rm := rmN) hG)) ⟨(Nat.le_of_ble_eq_true rfl), (Nat.le_of_ble_eq_true rfl)⟩ rfl rfl (Nat.le_of_ble_eq_true rfl) ?_
  rintro _ iv lv ⟨hS, _⟩
  have hR := rv_fr hS hR
  have hG := si_0 hS
  refine z_pop zh dL_law_1194 rfl ?_
  refine z_aloadnR zh dL_law_1195 rfl ?_
  refine z_aloadn zh dL_law_1196 rfl ?_
  refine z_iloadn zh dL_law_1197 rfl ?_
  refine z_iconst zh dL_law_1198 ki_1 ?_
  refine z_iaddN zh dL_law_1199 ?_
  refine z_sld (j := j + 1) zh rfl dL_law_1200 (by omega) (by omega) ?_
  refine z_aloadn zh dL_law_1201 rfl ?_
  refine z_iloadn zh dL_law_1202 rfl ?_
  refine z_iconst zh dL_law_1203 ki_2 ?_
  refine z_iaddN zh dL_law_1204 ?_
  refine z_sld (j := j + 2) zh rfl dL_law_1205 (by omega) (by omega) ?_
  refine z_aloadn zh dL_law_1206 rfl ?_
  refine z_iloadn zh dL_law_1207 rfl ?_
  refine z_iconst zh dL_law_1208 ki_3 ?_
  refine z_iaddN zh dL_law_1209 ?_
  refine z_sld (j := j + 3) zh rfl dL_law_1210 (by omega) (by omega) ?_
  refine z_callVI (As := [.int (xs (j + 1)), .int (xs (j + 2)), .int (xs (j + 3))]) zh mv_Law_136 dL_law_1211 ck_Y rfl (s_X9_queue g (si_u (rm := rmN) hG)) ⟨(Nat.le_of_ble_eq_true rfl), (Nat.le_of_ble_eq_true rfl)⟩ rfl rfl (Nat.le_of_ble_eq_true rfl) ?_
  rintro _ iv lv ⟨hS, _⟩
  have hR := rv_fr hS hR
  have hG := si_0 hS
  refine z_pop zh dL_law_1214 rfl ?_
  refine z_goto (tgt := 1481) zh dL_law_1215 rfl ?_
  exact kk _ _ hG hR
theorem la_28 {g : GE} {b L j : Nat} {xs : Nat → Int32} {Q : Option Value → Iv → Lv → Prop} {Z : ZT} {iv : Iv} {lv : Lv} (zh : LRw g b L xs Q Z) (hj : j + 6 ≤ L) (hL : L ≤ 3072) (hG : SI s0 z0 iv) (hR : RV iv) (kk : ∀ iv lv, SI s0 z0 iv → RV iv → Z 1481 (LwC g b j) [] iv lv) : Z 1218 (LwC g b j) [] iv lv := by
  refine z_aloadnR zh dL_law_1218 rfl ?_
  refine z_aloadn zh dL_law_1219 rfl ?_
  refine z_iloadn zh dL_law_1220 rfl ?_
  refine z_iconst zh dL_law_1221 ki_1 ?_
  refine z_iaddN zh dL_law_1222 ?_
  refine z_sld (j := j + 1) zh rfl dL_law_1223 (by omega) (by omega) ?_
  refine z_aloadn zh dL_law_1224 rfl ?_
  refine z_iloadn zh dL_law_1225 rfl ?_
  refine z_iconst zh dL_law_1226 ki_2 ?_
  refine z_iaddN zh dL_law_1227 ?_
  refine z_sld (j := j + 2) zh rfl dL_law_1228 (by omega) (by omega) ?_
  refine z_callVI (As := [.int (xs (j + 1)), .int (xs (j + 2))]) zh mv_Law_137 dL_law_1229 ck_X rfl (s_X8_aged g (si_u (rm := rmN) hG)) ⟨(Nat.le_of_ble_eq_true rfl), (Nat.le_of_ble_eq_true rfl)⟩ rfl rfl (Nat.le_of_ble_eq_true rfl) ?_
  rintro _ _ _ ⟨rfl, rfl, _⟩
  refine z_pop zh dL_law_1232 rfl ?_
  refine z_aloadnR zh dL_law_1233 rfl ?_
  refine z_aloadn zh dL_law_1234 rfl ?_
  refine z_iloadn zh dL_law_1235 rfl ?_
  refine z_iconst zh dL_law_1236 ki_1 ?_
  refine z_iaddN zh dL_law_1237 ?_
  refine z_sld (j := j + 1) zh rfl dL_law_1238 (by omega) (by omega) ?_
  refine z_aloadn zh dL_law_1239 rfl ?_
  refine z_iloadn zh dL_law_1240 rfl ?_
  refine z_iconst zh dL_law_1241 ki_2 ?_
  refine z_iaddN zh dL_law_1242 ?_
  refine z_sld (j := j + 2) zh rfl dL_law_1243 (by omega) (by omega) ?_
  refine z_callVI (As := [.int (xs (j + 1)), .int (xs (j + 2))]) zh mv_Law_140 dL_law_1244 ck_Y rfl (s_X9_aged g (si_u (rm := rmN) hG)) ⟨(Nat.le_of_ble_eq_true rfl), (Nat.le_of_ble_eq_true rfl)⟩ rfl rfl (Nat.le_of_ble_eq_true rfl) ?_
  rintro _ iv lv ⟨hS, _⟩
  have hR := rv_fr hS hR
  have hG := si_0 hS
  refine z_pop zh dL_law_1247 rfl ?_
  refine z_goto (tgt := 1481) zh dL_law_1248 rfl ?_
  exact kk _ _ hG hR
theorem la_29 {g : GE} {b L j : Nat} {xs : Nat → Int32} {Q : Option Value → Iv → Lv → Prop} {Z : ZT} {iv : Iv} {lv : Lv} (zh : LRw g b L xs Q Z) (hj : j + 6 ≤ L) (hL : L ≤ 3072) (hG : SI s0 z0 iv) (hR : RV iv) (kk : ∀ iv lv, SI s0 z0 iv → RV iv → Z 1481 (LwC g b j) [] iv lv) : Z 1251 (LwC g b j) [] iv lv := by
  refine z_aloadnR zh dL_law_1251 rfl ?_
  refine z_aloadn zh dL_law_1252 rfl ?_
  refine z_iloadn zh dL_law_1253 rfl ?_
  refine z_iconst zh dL_law_1254 ki_1 ?_
  refine z_iaddN zh dL_law_1255 ?_
  refine z_sld (j := j + 1) zh rfl dL_law_1256 (by omega) (by omega) ?_
  refine z_aloadn zh dL_law_1257 rfl ?_
  refine z_iloadn zh dL_law_1258 rfl ?_
  refine z_iconst zh dL_law_1259 ki_2 ?_
  refine z_iaddN zh dL_law_1260 ?_
  refine z_sld (j := j + 2) zh rfl dL_law_1261 (by omega) (by omega) ?_
  refine z_aloadn zh dL_law_1262 rfl ?_
  refine z_iloadn zh dL_law_1263 rfl ?_
  refine z_iconst zh dL_law_1264 ki_3 ?_
  refine z_iaddN zh dL_law_1265 ?_
  refine z_sld (j := j + 3) zh rfl dL_law_1266 (by omega) (by omega) ?_
  refine z_if_eq (tgt := 1274) zh dL_law_1267 rfl (fun hb1 => ?_) (fun hb1 => ?_)
  · refine z_iconst zh dL_law_1274 ki_0 ?_
    refine z_callVI (As := [.int (xs (j + 1)), .int (xs (j + 2)), .int (nI 0)]) zh mv_Law_141 dL_law_1275 ck_X rfl (s_X8_statement g (si_u (rm := rmN) hG)) ⟨(Nat.le_of_ble_eq_true rfl), (Nat.le_of_ble_eq_true rfl)⟩ rfl rfl (Nat.le_of_ble_eq_true rfl) ?_
    rintro _ _ _ ⟨rfl, rfl, _⟩
    refine z_pop zh dL_law_1278 rfl ?_
    refine z_aloadnR zh dL_law_1279 rfl ?_
    refine z_aloadn zh dL_law_1280 rfl ?_
    refine z_iloadn zh dL_law_1281 rfl ?_
    refine z_iconst zh dL_law_1282 ki_1 ?_
    refine z_iaddN zh dL_law_1283 ?_
    refine z_sld (j := j + 1) zh rfl dL_law_1284 (by omega) (by omega) ?_
    refine z_aloadn zh dL_law_1285 rfl ?_
    refine z_iloadn zh dL_law_1286 rfl ?_
    refine z_iconst zh dL_law_1287 ki_2 ?_
    refine z_iaddN zh dL_law_1288 ?_
    refine z_sld (j := j + 2) zh rfl dL_law_1289 (by omega) (by omega) ?_
    refine z_aloadn zh dL_law_1290 rfl ?_
    refine z_iloadn zh dL_law_1291 rfl ?_
    refine z_iconst zh dL_law_1292 ki_3 ?_
    refine z_iaddN zh dL_law_1293 ?_
    refine z_sld (j := j + 3) zh rfl dL_law_1294 (by omega) (by omega) ?_
    refine z_if_eq (tgt := 1302) zh dL_law_1295 rfl (fun _ => ?_) (fun q => absurd hb1 q)
    refine z_iconst zh dL_law_1302 ki_0 ?_
    refine z_callVI (As := [.int (xs (j + 1)), .int (xs (j + 2)), .int (nI 0)]) zh mv_Law_145 dL_law_1303 ck_Y rfl (s_X9_statement g (si_u (rm := rmN) hG)) ⟨(Nat.le_of_ble_eq_true rfl), (Nat.le_of_ble_eq_true rfl)⟩ rfl rfl (Nat.le_of_ble_eq_true rfl) ?_
    rintro _ iv lv ⟨hS, _⟩
    have hR := rv_fr hS hR
    have hG := si_0 hS
    refine z_pop zh dL_law_1306 rfl ?_
    refine z_goto (tgt := 1481) zh dL_law_1307 rfl ?_
    exact kk _ _ hG hR
  · refine z_iconst zh dL_law_1270 ki_1 ?_
    refine z_goto (tgt := 1275) zh dL_law_1271 rfl ?_
    refine z_callVI (As := [.int (xs (j + 1)), .int (xs (j + 2)), .int (nI 1)]) zh mv_Law_141 dL_law_1275 ck_X rfl (s_X8_statement g (si_u (rm := rmN) hG)) ⟨(Nat.le_of_ble_eq_true rfl), (Nat.le_of_ble_eq_true rfl)⟩ rfl rfl (Nat.le_of_ble_eq_true rfl) ?_
    rintro _ _ _ ⟨rfl, rfl, _⟩
    refine z_pop zh dL_law_1278 rfl ?_
    refine z_aloadnR zh dL_law_1279 rfl ?_
    refine z_aloadn zh dL_law_1280 rfl ?_
    refine z_iloadn zh dL_law_1281 rfl ?_
    refine z_iconst zh dL_law_1282 ki_1 ?_
    refine z_iaddN zh dL_law_1283 ?_
    refine z_sld (j := j + 1) zh rfl dL_law_1284 (by omega) (by omega) ?_
    refine z_aloadn zh dL_law_1285 rfl ?_
    refine z_iloadn zh dL_law_1286 rfl ?_
    refine z_iconst zh dL_law_1287 ki_2 ?_
    refine z_iaddN zh dL_law_1288 ?_
    refine z_sld (j := j + 2) zh rfl dL_law_1289 (by omega) (by omega) ?_
    refine z_aloadn zh dL_law_1290 rfl ?_
    refine z_iloadn zh dL_law_1291 rfl ?_
    refine z_iconst zh dL_law_1292 ki_3 ?_
    refine z_iaddN zh dL_law_1293 ?_
    refine z_sld (j := j + 3) zh rfl dL_law_1294 (by omega) (by omega) ?_
    refine z_if_eq (tgt := 1302) zh dL_law_1295 rfl (fun q => absurd q hb1) (fun _ => ?_)
    refine z_iconst zh dL_law_1298 ki_1 ?_
    refine z_goto (tgt := 1303) zh dL_law_1299 rfl ?_
    refine z_callVI (As := [.int (xs (j + 1)), .int (xs (j + 2)), .int (nI 1)]) zh mv_Law_145 dL_law_1303 ck_Y rfl (s_X9_statement g (si_u (rm := rmN) hG)) ⟨(Nat.le_of_ble_eq_true rfl), (Nat.le_of_ble_eq_true rfl)⟩ rfl rfl (Nat.le_of_ble_eq_true rfl) ?_
    rintro _ iv lv ⟨hS, _⟩
    have hR := rv_fr hS hR
    have hG := si_0 hS
    refine z_pop zh dL_law_1306 rfl ?_
    refine z_goto (tgt := 1481) zh dL_law_1307 rfl ?_
    exact kk _ _ hG hR
theorem la_30 {g : GE} {b L j : Nat} {xs : Nat → Int32} {Q : Option Value → Iv → Lv → Prop} {Z : ZT} {iv : Iv} {lv : Lv} (zh : LRw g b L xs Q Z) (hj : j + 6 ≤ L) (hL : L ≤ 3072) (hG : SI s0 z0 iv) (hR : RV iv) (kk : ∀ iv lv, SI s0 z0 iv → RV iv → Z 1481 (LwC g b j) [] iv lv) : Z 1310 (LwC g b j) [] iv lv := by
  refine z_aloadnR zh dL_law_1310 rfl ?_
  refine z_aloadn zh dL_law_1311 rfl ?_
  refine z_iloadn zh dL_law_1312 rfl ?_
  refine z_iconst zh dL_law_1313 ki_1 ?_
  refine z_iaddN zh dL_law_1314 ?_
  refine z_sld (j := j + 1) zh rfl dL_law_1315 (by omega) (by omega) ?_
  refine z_aloadn zh dL_law_1316 rfl ?_
  refine z_iloadn zh dL_law_1317 rfl ?_
  refine z_iconst zh dL_law_1318 ki_2 ?_
  refine z_iaddN zh dL_law_1319 ?_
  refine z_sld (j := j + 2) zh rfl dL_law_1320 (by omega) (by omega) ?_
  refine z_aloadn zh dL_law_1321 rfl ?_
  refine z_iloadn zh dL_law_1322 rfl ?_
  refine z_iconst zh dL_law_1323 ki_3 ?_
  refine z_iaddN zh dL_law_1324 ?_
  refine z_sld (j := j + 3) zh rfl dL_law_1325 (by omega) (by omega) ?_
  refine z_callVI (As := [.int (xs (j + 1)), .int (xs (j + 2)), .int (xs (j + 3))]) zh mv_Law_146 dL_law_1326 ck_X rfl (k_X8_tomorrow g (si_u (rm := rmN) hG) spU_k) ⟨(Nat.le_of_ble_eq_true rfl), (Nat.le_of_ble_eq_true rfl)⟩ rfl rfl (Nat.le_of_ble_eq_true rfl) ?_
  rintro _ iv lv ⟨hS, _⟩
  have hR := rv_fr hS hR
  have hG := si_0 hS
  refine z_pop zh dL_law_1329 rfl ?_
  refine z_aloadnR zh dL_law_1330 rfl ?_
  refine z_aloadn zh dL_law_1331 rfl ?_
  refine z_iloadn zh dL_law_1332 rfl ?_
  refine z_iconst zh dL_law_1333 ki_1 ?_
  refine z_iaddN zh dL_law_1334 ?_
  refine z_sld (j := j + 1) zh rfl dL_law_1335 (by omega) (by omega) ?_
  refine z_aloadn zh dL_law_1336 rfl ?_
  refine z_iloadn zh dL_law_1337 rfl ?_
  refine z_iconst zh dL_law_1338 ki_2 ?_
  refine z_iaddN zh dL_law_1339 ?_
  refine z_sld (j := j + 2) zh rfl dL_law_1340 (by omega) (by omega) ?_
  refine z_aloadn zh dL_law_1341 rfl ?_
  refine z_iloadn zh dL_law_1342 rfl ?_
  refine z_iconst zh dL_law_1343 ki_3 ?_
  refine z_iaddN zh dL_law_1344 ?_
  refine z_sld (j := j + 3) zh rfl dL_law_1345 (by omega) (by omega) ?_
  refine z_callVI (As := [.int (xs (j + 1)), .int (xs (j + 2)), .int (xs (j + 3))]) zh mv_Law_149 dL_law_1346 ck_Y rfl (k_X9_tomorrow g hG) ⟨(Nat.le_of_ble_eq_true rfl), (Nat.le_of_ble_eq_true rfl)⟩ rfl rfl (Nat.le_of_ble_eq_true rfl) ?_
  rintro _ iv lv hS
  have hR := rv_fr hS hR
  have hG := si_0 hS
  refine z_pop zh dL_law_1349 rfl ?_
  refine z_goto (tgt := 1481) zh dL_law_1350 rfl ?_
  exact kk _ _ hG hR
theorem la_31 {g : GE} {b L j : Nat} {xs : Nat → Int32} {Q : Option Value → Iv → Lv → Prop} {Z : ZT} {iv : Iv} {lv : Lv} (zh : LRw g b L xs Q Z) (hj : j + 6 ≤ L) (hL : L ≤ 3072) (hG : SI s0 z0 iv) (hR : RV iv) (kk : ∀ iv lv, SI s0 z0 iv → RV iv → Z 1481 (LwC g b j) [] iv lv) : Z 1353 (LwC g b j) [] iv lv := by
  refine z_aloadnR zh dL_law_1353 rfl ?_
  refine z_aloadn zh dL_law_1354 rfl ?_
  refine z_iloadn zh dL_law_1355 rfl ?_
  refine z_iconst zh dL_law_1356 ki_1 ?_
  refine z_iaddN zh dL_law_1357 ?_
  refine z_sld (j := j + 1) zh rfl dL_law_1358 (by omega) (by omega) ?_
  refine z_aloadn zh dL_law_1359 rfl ?_
  refine z_iloadn zh dL_law_1360 rfl ?_
  refine z_iconst zh dL_law_1361 ki_2 ?_
  refine z_iaddN zh dL_law_1362 ?_
  refine z_sld (j := j + 2) zh rfl dL_law_1363 (by omega) (by omega) ?_
  refine z_callVI (As := [.int (xs (j + 1)), .int (xs (j + 2))]) zh mv_Law_150 dL_law_1364 ck_X rfl (s_X8_ahead g (si_u (rm := rmN) hG)) ⟨(Nat.le_of_ble_eq_true rfl), (Nat.le_of_ble_eq_true rfl)⟩ rfl rfl (Nat.le_of_ble_eq_true rfl) ?_
  rintro _ iv lv ⟨hS, _⟩
  have hR := rv_fr hS hR
  have hG := si_0 hS
  refine z_pop zh dL_law_1367 rfl ?_
  refine z_aloadnR zh dL_law_1368 rfl ?_
  refine z_aloadn zh dL_law_1369 rfl ?_
  refine z_iloadn zh dL_law_1370 rfl ?_
  refine z_iconst zh dL_law_1371 ki_1 ?_
  refine z_iaddN zh dL_law_1372 ?_
  refine z_sld (j := j + 1) zh rfl dL_law_1373 (by omega) (by omega) ?_
  refine z_aloadn zh dL_law_1374 rfl ?_
  refine z_iloadn zh dL_law_1375 rfl ?_
  refine z_iconst zh dL_law_1376 ki_2 ?_
  refine z_iaddN zh dL_law_1377 ?_
  refine z_sld (j := j + 2) zh rfl dL_law_1378 (by omega) (by omega) ?_
  refine z_callVI (As := [.int (xs (j + 1)), .int (xs (j + 2))]) zh mv_Law_153 dL_law_1379 ck_Y rfl (s_X9_ahead g (si_u (rm := rmN) hG)) ⟨(Nat.le_of_ble_eq_true rfl), (Nat.le_of_ble_eq_true rfl)⟩ rfl rfl (Nat.le_of_ble_eq_true rfl) ?_
  rintro _ iv lv ⟨hS, _⟩
  have hR := rv_fr hS hR
  have hG := si_0 hS
  refine z_pop zh dL_law_1382 rfl ?_
  refine z_goto (tgt := 1481) zh dL_law_1383 rfl ?_
  exact kk _ _ hG hR
theorem la_32 {g : GE} {b L j : Nat} {xs : Nat → Int32} {Q : Option Value → Iv → Lv → Prop} {Z : ZT} {iv : Iv} {lv : Lv} (zh : LRw g b L xs Q Z) (hj : j + 6 ≤ L) (hL : L ≤ 3072) (hG : SI s0 z0 iv) (hR : RV iv) (kk : ∀ iv lv, SI s0 z0 iv → RV iv → Z 1481 (LwC g b j) [] iv lv) : Z 1386 (LwC g b j) [] iv lv := by
  refine z_aloadnR zh dL_law_1386 rfl ?_
  refine z_aloadn zh dL_law_1387 rfl ?_
  refine z_iloadn zh dL_law_1388 rfl ?_
  refine z_iconst zh dL_law_1389 ki_1 ?_
  refine z_iaddN zh dL_law_1390 ?_
  refine z_sld (j := j + 1) zh rfl dL_law_1391 (by omega) (by omega) ?_
  refine z_aloadn zh dL_law_1392 rfl ?_
  refine z_iloadn zh dL_law_1393 rfl ?_
  refine z_iconst zh dL_law_1394 ki_2 ?_
  refine z_iaddN zh dL_law_1395 ?_
  refine z_sld (j := j + 2) zh rfl dL_law_1396 (by omega) (by omega) ?_
  refine z_callVI (As := [.int (xs (j + 1)), .int (xs (j + 2))]) zh mv_Law_154 dL_law_1397 ck_X rfl (s_X8_reached g (si_u (rm := rmN) hG)) ⟨(Nat.le_of_ble_eq_true rfl), (Nat.le_of_ble_eq_true rfl)⟩ rfl rfl (Nat.le_of_ble_eq_true rfl) ?_
  rintro _ iv lv ⟨hS, _⟩
  have hR := rv_fr hS hR
  have hG := si_0 hS
  refine z_pop zh dL_law_1400 rfl ?_
  refine z_aloadnR zh dL_law_1401 rfl ?_
  refine z_aloadn zh dL_law_1402 rfl ?_
  refine z_iloadn zh dL_law_1403 rfl ?_
  refine z_iconst zh dL_law_1404 ki_1 ?_
  refine z_iaddN zh dL_law_1405 ?_
  refine z_sld (j := j + 1) zh rfl dL_law_1406 (by omega) (by omega) ?_
  refine z_aloadn zh dL_law_1407 rfl ?_
  refine z_iloadn zh dL_law_1408 rfl ?_
  refine z_iconst zh dL_law_1409 ki_2 ?_
  refine z_iaddN zh dL_law_1410 ?_
  refine z_sld (j := j + 2) zh rfl dL_law_1411 (by omega) (by omega) ?_
  refine z_callVI (As := [.int (xs (j + 1)), .int (xs (j + 2))]) zh mv_Law_157 dL_law_1412 ck_Y rfl (s_X9_reached g (si_u (rm := rmN) hG)) ⟨(Nat.le_of_ble_eq_true rfl), (Nat.le_of_ble_eq_true rfl)⟩ rfl rfl (Nat.le_of_ble_eq_true rfl) ?_
  rintro _ iv lv ⟨hS, _⟩
  have hR := rv_fr hS hR
  have hG := si_0 hS
  refine z_pop zh dL_law_1415 rfl ?_
  refine z_goto (tgt := 1481) zh dL_law_1416 rfl ?_
  exact kk _ _ hG hR
theorem la_33 {g : GE} {b L j : Nat} {xs : Nat → Int32} {Q : Option Value → Iv → Lv → Prop} {Z : ZT} {iv : Iv} {lv : Lv} (zh : LRw g b L xs Q Z) (hj : j + 6 ≤ L) (hL : L ≤ 3072) (hG : SI s0 z0 iv) (hR : RV iv) (kk : ∀ iv lv, SI s0 z0 iv → RV iv → Z 1481 (LwC g b j) [] iv lv) : Z 1419 (LwC g b j) [] iv lv := by
  refine z_aloadnR zh dL_law_1419 rfl ?_
  refine z_aloadn zh dL_law_1420 rfl ?_
  refine z_iloadn zh dL_law_1421 rfl ?_
  refine z_iconst zh dL_law_1422 ki_1 ?_
  refine z_iaddN zh dL_law_1423 ?_
  refine z_sld (j := j + 1) zh rfl dL_law_1424 (by omega) (by omega) ?_
  refine z_if_eq (tgt := 1432) zh dL_law_1425 rfl (fun hb1 => ?_) (fun hb1 => ?_)
  · refine z_iconst zh dL_law_1432 ki_0 ?_
    refine z_callVI (As := [.int (nI 0)]) zh mv_Law_158 dL_law_1433 ck_X rfl (v_X8_image g hG hR) ⟨(Nat.le_of_ble_eq_true rfl), (Nat.le_of_ble_eq_true rfl)⟩ rfl rfl (Nat.le_of_ble_eq_true rfl) ?_
    rintro _ iv lv ⟨hG, hM⟩
    refine z_aloadnR zh dL_law_1436 rfl ?_
    refine z_aloadn zh dL_law_1437 rfl ?_
    refine z_iloadn zh dL_law_1438 rfl ?_
    refine z_iconst zh dL_law_1439 ki_1 ?_
    refine z_iaddN zh dL_law_1440 ?_
    refine z_sld (j := j + 1) zh rfl dL_law_1441 (by omega) (by omega) ?_
    refine z_if_eq (tgt := 1449) zh dL_law_1442 rfl (fun _ => ?_) (fun q => absurd hb1 q)
    refine z_iconst zh dL_law_1449 ki_0 ?_
    refine z_callVI (As := [.int (nI 0)]) zh mv_Law_162 dL_law_1450 ck_Y rfl (v_X9_image g hG hM) ⟨(Nat.le_of_ble_eq_true rfl), (Nat.le_of_ble_eq_true rfl)⟩ rfl rfl (Nat.le_of_ble_eq_true rfl) ?_
    rintro _ iv lv ⟨hG, hR, hp⟩
    exact z_icmp_eq (tgt := 1481) zh dL_law_1453 rfl (fun _ => kk _ _ hG hR) (fun q => absurd hp.symm q)
  · refine z_iconst zh dL_law_1428 ki_1 ?_
    refine z_goto (tgt := 1433) zh dL_law_1429 rfl ?_
    refine z_callVI (As := [.int (nI 1)]) zh mv_Law_158 dL_law_1433 ck_X rfl (v_X8_image g hG hR) ⟨(Nat.le_of_ble_eq_true rfl), (Nat.le_of_ble_eq_true rfl)⟩ rfl rfl (Nat.le_of_ble_eq_true rfl) ?_
    rintro _ iv lv ⟨hG, hM⟩
    refine z_aloadnR zh dL_law_1436 rfl ?_
    refine z_aloadn zh dL_law_1437 rfl ?_
    refine z_iloadn zh dL_law_1438 rfl ?_
    refine z_iconst zh dL_law_1439 ki_1 ?_
    refine z_iaddN zh dL_law_1440 ?_
    refine z_sld (j := j + 1) zh rfl dL_law_1441 (by omega) (by omega) ?_
    refine z_if_eq (tgt := 1449) zh dL_law_1442 rfl (fun q => absurd q hb1) (fun _ => ?_)
    refine z_iconst zh dL_law_1445 ki_1 ?_
    refine z_goto (tgt := 1450) zh dL_law_1446 rfl ?_
    refine z_callVI (As := [.int (nI 1)]) zh mv_Law_162 dL_law_1450 ck_Y rfl (v_X9_image g hG hM) ⟨(Nat.le_of_ble_eq_true rfl), (Nat.le_of_ble_eq_true rfl)⟩ rfl rfl (Nat.le_of_ble_eq_true rfl) ?_
    rintro _ iv lv ⟨hG, hR, hp⟩
    exact z_icmp_eq (tgt := 1481) zh dL_law_1453 rfl (fun _ => kk _ _ hG hR) (fun q => absurd hp.symm q)
theorem la_34 {g : GE} {b L j : Nat} {xs : Nat → Int32} {Q : Option Value → Iv → Lv → Prop} {Z : ZT} {iv : Iv} {lv : Lv} (zh : LRw g b L xs Q Z) (hj : j + 6 ≤ L) (hL : L ≤ 3072) (hG : SI s0 z0 iv) (hR : RV iv) (kk : ∀ iv lv, SI s0 z0 iv → RV iv → Z 1481 (LwC g b j) [] iv lv) : Z 1458 (LwC g b j) [] iv lv := by
  refine z_aloadnR zh dL_law_1458 rfl ?_
  refine z_aloadn zh dL_law_1459 rfl ?_
  refine z_iloadn zh dL_law_1460 rfl ?_
  refine z_iconst zh dL_law_1461 ki_1 ?_
  refine z_iaddN zh dL_law_1462 ?_
  refine z_sld (j := j + 1) zh rfl dL_law_1463 (by omega) (by omega) ?_
  refine z_callVI (As := [.int (xs (j + 1))]) zh mv_Law_163 dL_law_1464 ck_X rfl (s_X8_look g (si_u (rm := rmN) hG)) ⟨(Nat.le_of_ble_eq_true rfl), (Nat.le_of_ble_eq_true rfl)⟩ rfl rfl (Nat.le_of_ble_eq_true rfl) ?_
  rintro _ _ _ ⟨rfl, rfl, _⟩
  refine z_pop zh dL_law_1467 rfl ?_
  refine z_aloadnR zh dL_law_1468 rfl ?_
  refine z_aloadn zh dL_law_1469 rfl ?_
  refine z_iloadn zh dL_law_1470 rfl ?_
  refine z_iconst zh dL_law_1471 ki_1 ?_
  refine z_iaddN zh dL_law_1472 ?_
  refine z_sld (j := j + 1) zh rfl dL_law_1473 (by omega) (by omega) ?_
  refine z_callVI (As := [.int (xs (j + 1))]) zh mv_Law_166 dL_law_1474 ck_Y rfl (s_X9_look g (si_u (rm := rmN) hG)) ⟨(Nat.le_of_ble_eq_true rfl), (Nat.le_of_ble_eq_true rfl)⟩ rfl rfl (Nat.le_of_ble_eq_true rfl) ?_
  rintro _ iv lv ⟨hS, _⟩
  have hR := rv_fr hS hR
  have hG := si_0 hS
  refine z_pop zh dL_law_1477 rfl ?_
  refine z_goto (tgt := 1481) zh dL_law_1478 rfl ?_
  exact kk _ _ hG hR

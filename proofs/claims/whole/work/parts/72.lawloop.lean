/-! ===== the law: its 36 cases, its loop ===== -/
set_option maxRecDepth 100000 in
theorem lc_0 {Ln i : Nat} {xs : Nat → Int32} {M : Mem} {σ : Sg} (hL : Ln ≤ 3072) (hi : i + 6 ≤ Ln) (hC : RC M σ) (hM : RM M σ) (hI : Iv σ) (K : ∀ M2 σ2, RC M2 σ2 → RM M2 σ2 → Iv σ2 → LW Ln xs 1553 [some (.ref 9999), some (.ref 0), some (.ref 1000), some (.int (nI i))] [] M2) : LW Ln xs 192 [some (.ref 9999), some (.ref 0), some (.ref 1000), some (.int (nI i))] [] M := by
  refine lq_aload_n d_L_192 rfl ?_
  refine lq_virtI (c_head hC hI) rfl ml_L_13 so_C rfl rfl d_L_193 (fun r1 M1 q1 => ?_)
  obtain ⟨e1, w1, k1⟩ := q1
  subst e1
  have hM1 := hM.kept k1
  refine lq_aload_n d_L_196 rfl ?_
  refine lq_virtI (m_head hM1 hI) rfl ml_L_17 so_M rfl rfl d_L_197 (fun r2 M2 q2 => ?_)
  obtain ⟨e2, w2, k2⟩ := q2
  subst e2
  refine lq_icmp_eq 1553 d_L_200 (by decide) (fun _ => K _ _ (RC.kept (iv_head hI).2.1 (iv_head hI).2.2.1 w1 k2) w2 (iv_head hI)) (fun h => absurd rfl h)
set_option maxRecDepth 100000 in
theorem lc_1 {Ln i : Nat} {xs : Nat → Int32} {M : Mem} {σ : Sg} (hL : Ln ≤ 3072) (hi : i + 6 ≤ Ln) (hC : RC M σ) (hM : RM M σ) (hI : Iv σ) (K : ∀ M2 σ2, RC M2 σ2 → RM M2 σ2 → Iv σ2 → LW Ln xs 1553 [some (.ref 9999), some (.ref 0), some (.ref 1000), some (.int (nI i))] [] M2) : LW Ln xs 205 [some (.ref 9999), some (.ref 0), some (.ref 1000), some (.int (nI i))] [] M := by
  refine lq_aload_n d_L_205 rfl ?_
  refine lq_aload_n d_L_206 rfl ?_
  refine lq_iload_n d_L_207 rfl ?_
  refine lq_iconst (v := 1) d_L_208 (by decide) ?_
  refine lq_iadd d_L_209 ?_
  refine lq_sld d_L_210 (sc_in (j := 1) rfl (by omega) hL) ?_
  refine lq_aload_n d_L_211 rfl ?_
  refine lq_iload_n d_L_212 rfl ?_
  refine lq_iconst (v := 2) d_L_213 (by decide) ?_
  refine lq_iadd d_L_214 ?_
  refine lq_sld d_L_215 (sc_in (j := 2) rfl (by omega) hL) ?_
  refine lq_aload_n d_L_216 rfl ?_
  refine lq_iload_n d_L_217 rfl ?_
  refine lq_iconst (v := 3) d_L_218 (by decide) ?_
  refine lq_iadd d_L_219 ?_
  refine lq_sld d_L_220 (sc_in (j := 3) rfl (by omega) hL) ?_
  refine lq_virtI (c_place hC hI) rfl ml_L_18 so_C rfl rfl d_L_221 (fun r1 M1 q1 => ?_)
  obtain ⟨e1, w1, k1⟩ := q1
  subst e1
  have hM1 := hM.kept k1
  refine lq_aload_n d_L_224 rfl ?_
  refine lq_aload_n d_L_225 rfl ?_
  refine lq_iload_n d_L_226 rfl ?_
  refine lq_iconst (v := 1) d_L_227 (by decide) ?_
  refine lq_iadd d_L_228 ?_
  refine lq_sld d_L_229 (sc_in (j := 1) rfl (by omega) hL) ?_
  refine lq_aload_n d_L_230 rfl ?_
  refine lq_iload_n d_L_231 rfl ?_
  refine lq_iconst (v := 2) d_L_232 (by decide) ?_
  refine lq_iadd d_L_233 ?_
  refine lq_sld d_L_234 (sc_in (j := 2) rfl (by omega) hL) ?_
  refine lq_aload_n d_L_235 rfl ?_
  refine lq_iload_n d_L_236 rfl ?_
  refine lq_iconst (v := 3) d_L_237 (by decide) ?_
  refine lq_iadd d_L_238 ?_
  refine lq_sld d_L_239 (sc_in (j := 3) rfl (by omega) hL) ?_
  refine lq_virtI (m_place hM1 hI) rfl ml_L_22 so_M rfl rfl d_L_240 (fun r2 M2 q2 => ?_)
  obtain ⟨e2, w2, k2⟩ := q2
  subst e2
  refine lq_icmp_eq 1553 d_L_243 (by decide) (fun _ => K _ _ (RC.kept (iv_place hI).2.1 (iv_place hI).2.2.1 w1 k2) w2 (iv_place hI)) (fun h => absurd rfl h)
set_option maxRecDepth 100000 in
theorem lc_2 {Ln i : Nat} {xs : Nat → Int32} {M : Mem} {σ : Sg} (hL : Ln ≤ 3072) (hi : i + 6 ≤ Ln) (hC : RC M σ) (hM : RM M σ) (hI : Iv σ) (K : ∀ M2 σ2, RC M2 σ2 → RM M2 σ2 → Iv σ2 → LW Ln xs 1553 [some (.ref 9999), some (.ref 0), some (.ref 1000), some (.int (nI i))] [] M2) : LW Ln xs 248 [some (.ref 9999), some (.ref 0), some (.ref 1000), some (.int (nI i))] [] M := by
  refine lq_aload_n d_L_248 rfl ?_
  refine lq_aload_n d_L_249 rfl ?_
  refine lq_iload_n d_L_250 rfl ?_
  refine lq_iconst (v := 1) d_L_251 (by decide) ?_
  refine lq_iadd d_L_252 ?_
  refine lq_sld d_L_253 (sc_in (j := 1) rfl (by omega) hL) ?_
  refine lq_aload_n d_L_254 rfl ?_
  refine lq_iload_n d_L_255 rfl ?_
  refine lq_iconst (v := 2) d_L_256 (by decide) ?_
  refine lq_iadd d_L_257 ?_
  refine lq_sld d_L_258 (sc_in (j := 2) rfl (by omega) hL) ?_
  refine lq_virtI (c_read hC hI) rfl ml_L_23 so_C rfl rfl d_L_259 (fun r1 M1 q1 => ?_)
  obtain ⟨e1, w1, k1⟩ := q1
  subst e1
  have hM1 := hM.kept k1
  refine lq_aload_n d_L_262 rfl ?_
  refine lq_aload_n d_L_263 rfl ?_
  refine lq_iload_n d_L_264 rfl ?_
  refine lq_iconst (v := 1) d_L_265 (by decide) ?_
  refine lq_iadd d_L_266 ?_
  refine lq_sld d_L_267 (sc_in (j := 1) rfl (by omega) hL) ?_
  refine lq_aload_n d_L_268 rfl ?_
  refine lq_iload_n d_L_269 rfl ?_
  refine lq_iconst (v := 2) d_L_270 (by decide) ?_
  refine lq_iadd d_L_271 ?_
  refine lq_sld d_L_272 (sc_in (j := 2) rfl (by omega) hL) ?_
  refine lq_virtI (m_read hM1 hI) rfl ml_L_27 so_M rfl rfl d_L_273 (fun r2 M2 q2 => ?_)
  obtain ⟨e2, w2, k2⟩ := q2
  subst e2
  refine lq_icmp_eq 1553 d_L_276 (by decide) (fun _ => K _ _ (RC.kept (iv_read hI).2.1 (iv_read hI).2.2.1 w1 k2) w2 (iv_read hI)) (fun h => absurd rfl h)
set_option maxRecDepth 100000 in
theorem lc_3 {Ln i : Nat} {xs : Nat → Int32} {M : Mem} {σ : Sg} (hL : Ln ≤ 3072) (hi : i + 6 ≤ Ln) (hC : RC M σ) (hM : RM M σ) (hI : Iv σ) (K : ∀ M2 σ2, RC M2 σ2 → RM M2 σ2 → Iv σ2 → LW Ln xs 1553 [some (.ref 9999), some (.ref 0), some (.ref 1000), some (.int (nI i))] [] M2) : LW Ln xs 281 [some (.ref 9999), some (.ref 0), some (.ref 1000), some (.int (nI i))] [] M := by
  refine lq_aload_n d_L_281 rfl ?_
  refine lq_aload_n d_L_282 rfl ?_
  refine lq_iload_n d_L_283 rfl ?_
  refine lq_iconst (v := 1) d_L_284 (by decide) ?_
  refine lq_iadd d_L_285 ?_
  refine lq_sld d_L_286 (sc_in (j := 1) rfl (by omega) hL) ?_
  refine lq_aload_n d_L_287 rfl ?_
  refine lq_iload_n d_L_288 rfl ?_
  refine lq_iconst (v := 2) d_L_289 (by decide) ?_
  refine lq_iadd d_L_290 ?_
  refine lq_sld d_L_291 (sc_in (j := 2) rfl (by omega) hL) ?_
  refine lq_virtI (c_mean hC hI) rfl ml_L_28 so_C rfl rfl d_L_292 (fun r1 M1 q1 => ?_)
  obtain ⟨e1, w1, k1⟩ := q1
  subst e1
  have hM1 := hM.kept k1
  refine lq_aload_n d_L_295 rfl ?_
  refine lq_aload_n d_L_296 rfl ?_
  refine lq_iload_n d_L_297 rfl ?_
  refine lq_iconst (v := 1) d_L_298 (by decide) ?_
  refine lq_iadd d_L_299 ?_
  refine lq_sld d_L_300 (sc_in (j := 1) rfl (by omega) hL) ?_
  refine lq_aload_n d_L_301 rfl ?_
  refine lq_iload_n d_L_302 rfl ?_
  refine lq_iconst (v := 2) d_L_303 (by decide) ?_
  refine lq_iadd d_L_304 ?_
  refine lq_sld d_L_305 (sc_in (j := 2) rfl (by omega) hL) ?_
  refine lq_virtI (m_mean hM1 hI) rfl ml_L_31 so_M rfl rfl d_L_306 (fun r2 M2 q2 => ?_)
  obtain ⟨e2, w2, k2⟩ := q2
  subst e2
  refine lq_icmp_eq 1553 d_L_309 (by decide) (fun _ => K _ _ (RC.kept hI.2.1 hI.2.2.1 w1 k2) w2 hI) (fun h => absurd rfl h)
set_option maxRecDepth 100000 in
theorem lc_4 {Ln i : Nat} {xs : Nat → Int32} {M : Mem} {σ : Sg} (hL : Ln ≤ 3072) (hi : i + 6 ≤ Ln) (hC : RC M σ) (hM : RM M σ) (hI : Iv σ) (K : ∀ M2 σ2, RC M2 σ2 → RM M2 σ2 → Iv σ2 → LW Ln xs 1553 [some (.ref 9999), some (.ref 0), some (.ref 1000), some (.int (nI i))] [] M2) : LW Ln xs 314 [some (.ref 9999), some (.ref 0), some (.ref 1000), some (.int (nI i))] [] M := by
  refine lq_aload_n d_L_314 rfl ?_
  refine lq_aload_n d_L_315 rfl ?_
  refine lq_iload_n d_L_316 rfl ?_
  refine lq_iconst (v := 1) d_L_317 (by decide) ?_
  refine lq_iadd d_L_318 ?_
  refine lq_sld d_L_319 (sc_in (j := 1) rfl (by omega) hL) ?_
  refine lq_aload_n d_L_320 rfl ?_
  refine lq_iload_n d_L_321 rfl ?_
  refine lq_iconst (v := 2) d_L_322 (by decide) ?_
  refine lq_iadd d_L_323 ?_
  refine lq_sld d_L_324 (sc_in (j := 2) rfl (by omega) hL) ?_
  refine lq_virtI (c_type hC hI) rfl ml_L_32 so_C rfl rfl d_L_325 (fun r1 M1 q1 => ?_)
  obtain ⟨e1, w1, k1⟩ := q1
  subst e1
  have hM1 := hM.kept k1
  refine lq_aload_n d_L_328 rfl ?_
  refine lq_aload_n d_L_329 rfl ?_
  refine lq_iload_n d_L_330 rfl ?_
  refine lq_iconst (v := 1) d_L_331 (by decide) ?_
  refine lq_iadd d_L_332 ?_
  refine lq_sld d_L_333 (sc_in (j := 1) rfl (by omega) hL) ?_
  refine lq_aload_n d_L_334 rfl ?_
  refine lq_iload_n d_L_335 rfl ?_
  refine lq_iconst (v := 2) d_L_336 (by decide) ?_
  refine lq_iadd d_L_337 ?_
  refine lq_sld d_L_338 (sc_in (j := 2) rfl (by omega) hL) ?_
  refine lq_virtI (m_type hM1 hI) rfl ml_L_35 so_M rfl rfl d_L_339 (fun r2 M2 q2 => ?_)
  obtain ⟨e2, w2, k2⟩ := q2
  subst e2
  refine lq_icmp_eq 1553 d_L_342 (by decide) (fun _ => K _ _ (RC.kept (iv_type hI).2.1 (iv_type hI).2.2.1 w1 k2) w2 (iv_type hI)) (fun h => absurd rfl h)
set_option maxRecDepth 100000 in
theorem lc_5 {Ln i : Nat} {xs : Nat → Int32} {M : Mem} {σ : Sg} (hL : Ln ≤ 3072) (hi : i + 6 ≤ Ln) (hC : RC M σ) (hM : RM M σ) (hI : Iv σ) (K : ∀ M2 σ2, RC M2 σ2 → RM M2 σ2 → Iv σ2 → LW Ln xs 1553 [some (.ref 9999), some (.ref 0), some (.ref 1000), some (.int (nI i))] [] M2) : LW Ln xs 347 [some (.ref 9999), some (.ref 0), some (.ref 1000), some (.int (nI i))] [] M := by
  refine lq_aload_n d_L_347 rfl ?_
  refine lq_aload_n d_L_348 rfl ?_
  refine lq_iload_n d_L_349 rfl ?_
  refine lq_iconst (v := 1) d_L_350 (by decide) ?_
  refine lq_iadd d_L_351 ?_
  refine lq_sld d_L_352 (sc_in (j := 1) rfl (by omega) hL) ?_
  refine lq_virtI (c_wipe hC hI) rfl ml_L_36 so_C rfl rfl d_L_353 (fun r1 M1 q1 => ?_)
  obtain ⟨e1, w1, k1⟩ := q1
  subst e1
  have hM1 := hM.kept k1
  refine lq_aload_n d_L_356 rfl ?_
  refine lq_aload_n d_L_357 rfl ?_
  refine lq_iload_n d_L_358 rfl ?_
  refine lq_iconst (v := 1) d_L_359 (by decide) ?_
  refine lq_iadd d_L_360 ?_
  refine lq_sld d_L_361 (sc_in (j := 1) rfl (by omega) hL) ?_
  refine lq_virtI (m_wipe hM1 hI) rfl ml_L_40 so_M rfl rfl d_L_362 (fun r2 M2 q2 => ?_)
  obtain ⟨e2, w2, k2⟩ := q2
  subst e2
  refine lq_icmp_eq 1553 d_L_365 (by decide) (fun _ => K _ _ (RC.kept (iv_wipe hI).2.1 (iv_wipe hI).2.2.1 w1 k2) w2 (iv_wipe hI)) (fun h => absurd rfl h)
set_option maxRecDepth 100000 in
theorem lc_6 {Ln i : Nat} {xs : Nat → Int32} {M : Mem} {σ : Sg} (hL : Ln ≤ 3072) (hi : i + 6 ≤ Ln) (hC : RC M σ) (hM : RM M σ) (hI : Iv σ) (K : ∀ M2 σ2, RC M2 σ2 → RM M2 σ2 → Iv σ2 → LW Ln xs 1553 [some (.ref 9999), some (.ref 0), some (.ref 1000), some (.int (nI i))] [] M2) : LW Ln xs 370 [some (.ref 9999), some (.ref 0), some (.ref 1000), some (.int (nI i))] [] M := by
  refine lq_aload_n d_L_370 rfl ?_
  refine lq_aload_n d_L_371 rfl ?_
  refine lq_iload_n d_L_372 rfl ?_
  refine lq_iconst (v := 1) d_L_373 (by decide) ?_
  refine lq_iadd d_L_374 ?_
  refine lq_sld d_L_375 (sc_in (j := 1) rfl (by omega) hL) ?_
  refine lq_virtI (c_fault hC hI) rfl ml_L_41 so_C rfl rfl d_L_376 (fun r1 M1 q1 => ?_)
  obtain ⟨e1, w1, k1⟩ := q1
  subst e1
  have hM1 := hM.kept k1
  refine lq_aload_n d_L_379 rfl ?_
  refine lq_aload_n d_L_380 rfl ?_
  refine lq_iload_n d_L_381 rfl ?_
  refine lq_iconst (v := 1) d_L_382 (by decide) ?_
  refine lq_iadd d_L_383 ?_
  refine lq_sld d_L_384 (sc_in (j := 1) rfl (by omega) hL) ?_
  refine lq_virtI (m_fault hM1 hI) rfl ml_L_44 so_M rfl rfl d_L_385 (fun r2 M2 q2 => ?_)
  obtain ⟨e2, w2, k2⟩ := q2
  subst e2
  refine lq_icmp_eq 1553 d_L_388 (by decide) (fun _ => K _ _ (RC.kept hI.2.1 hI.2.2.1 w1 k2) w2 hI) (fun h => absurd rfl h)
set_option maxRecDepth 100000 in
theorem lc_7 {Ln i : Nat} {xs : Nat → Int32} {M : Mem} {σ : Sg} (hL : Ln ≤ 3072) (hi : i + 6 ≤ Ln) (hC : RC M σ) (hM : RM M σ) (hI : Iv σ) (K : ∀ M2 σ2, RC M2 σ2 → RM M2 σ2 → Iv σ2 → LW Ln xs 1553 [some (.ref 9999), some (.ref 0), some (.ref 1000), some (.int (nI i))] [] M2) : LW Ln xs 393 [some (.ref 9999), some (.ref 0), some (.ref 1000), some (.int (nI i))] [] M := by
  refine lq_aload_n d_L_393 rfl ?_
  refine lq_aload_n d_L_394 rfl ?_
  refine lq_iload_n d_L_395 rfl ?_
  refine lq_iconst (v := 1) d_L_396 (by decide) ?_
  refine lq_iadd d_L_397 ?_
  refine lq_sld d_L_398 (sc_in (j := 1) rfl (by omega) hL) ?_
  refine lq_aload_n d_L_399 rfl ?_
  refine lq_iload_n d_L_400 rfl ?_
  refine lq_iconst (v := 2) d_L_401 (by decide) ?_
  refine lq_iadd d_L_402 ?_
  refine lq_sld d_L_403 (sc_in (j := 2) rfl (by omega) hL) ?_
  refine lq_virtI (c_tenths hC hI) rfl ml_L_45 so_C rfl rfl d_L_404 (fun r1 M1 q1 => ?_)
  obtain ⟨e1, w1, k1⟩ := q1
  subst e1
  have hM1 := hM.kept k1
  refine lq_aload_n d_L_407 rfl ?_
  refine lq_aload_n d_L_408 rfl ?_
  refine lq_iload_n d_L_409 rfl ?_
  refine lq_iconst (v := 1) d_L_410 (by decide) ?_
  refine lq_iadd d_L_411 ?_
  refine lq_sld d_L_412 (sc_in (j := 1) rfl (by omega) hL) ?_
  refine lq_aload_n d_L_413 rfl ?_
  refine lq_iload_n d_L_414 rfl ?_
  refine lq_iconst (v := 2) d_L_415 (by decide) ?_
  refine lq_iadd d_L_416 ?_
  refine lq_sld d_L_417 (sc_in (j := 2) rfl (by omega) hL) ?_
  refine lq_virtI (m_tenths hM1 hI) rfl ml_L_48 so_M rfl rfl d_L_418 (fun r2 M2 q2 => ?_)
  obtain ⟨e2, w2, k2⟩ := q2
  subst e2
  refine lq_icmp_eq 1553 d_L_421 (by decide) (fun _ => K _ _ (RC.kept hI.2.1 hI.2.2.1 w1 k2) w2 hI) (fun h => absurd rfl h)
set_option maxRecDepth 100000 in
theorem lc_8 {Ln i : Nat} {xs : Nat → Int32} {M : Mem} {σ : Sg} (hL : Ln ≤ 3072) (hi : i + 6 ≤ Ln) (hC : RC M σ) (hM : RM M σ) (hI : Iv σ) (K : ∀ M2 σ2, RC M2 σ2 → RM M2 σ2 → Iv σ2 → LW Ln xs 1553 [some (.ref 9999), some (.ref 0), some (.ref 1000), some (.int (nI i))] [] M2) : LW Ln xs 426 [some (.ref 9999), some (.ref 0), some (.ref 1000), some (.int (nI i))] [] M := by
  refine lq_aload_n d_L_426 rfl ?_
  refine lq_aload_n d_L_427 rfl ?_
  refine lq_iload_n d_L_428 rfl ?_
  refine lq_iconst (v := 1) d_L_429 (by decide) ?_
  refine lq_iadd d_L_430 ?_
  refine lq_sld d_L_431 (sc_in (j := 1) rfl (by omega) hL) ?_
  refine lq_aload_n d_L_432 rfl ?_
  refine lq_iload_n d_L_433 rfl ?_
  refine lq_iconst (v := 2) d_L_434 (by decide) ?_
  refine lq_iadd d_L_435 ?_
  refine lq_sld d_L_436 (sc_in (j := 2) rfl (by omega) hL) ?_
  refine lq_aload_n d_L_437 rfl ?_
  refine lq_iload_n d_L_438 rfl ?_
  refine lq_iconst (v := 3) d_L_439 (by decide) ?_
  refine lq_iadd d_L_440 ?_
  refine lq_sld d_L_441 (sc_in (j := 3) rfl (by omega) hL) ?_
  refine lq_aload_n d_L_442 rfl ?_
  refine lq_iload_n d_L_443 rfl ?_
  refine lq_iconst (v := 4) d_L_444 (by decide) ?_
  refine lq_iadd d_L_445 ?_
  refine lq_sld d_L_446 (sc_in (j := 4) rfl (by omega) hL) ?_
  refine lq_virtI (c_drawn hC hI) rfl ml_L_49 so_C rfl rfl d_L_447 (fun r1 M1 q1 => ?_)
  obtain ⟨e1, w1, k1⟩ := q1
  subst e1
  have hM1 := hM.kept k1
  refine lq_aload_n d_L_450 rfl ?_
  refine lq_aload_n d_L_451 rfl ?_
  refine lq_iload_n d_L_452 rfl ?_
  refine lq_iconst (v := 1) d_L_453 (by decide) ?_
  refine lq_iadd d_L_454 ?_
  refine lq_sld d_L_455 (sc_in (j := 1) rfl (by omega) hL) ?_
  refine lq_aload_n d_L_456 rfl ?_
  refine lq_iload_n d_L_457 rfl ?_
  refine lq_iconst (v := 2) d_L_458 (by decide) ?_
  refine lq_iadd d_L_459 ?_
  refine lq_sld d_L_460 (sc_in (j := 2) rfl (by omega) hL) ?_
  refine lq_aload_n d_L_461 rfl ?_
  refine lq_iload_n d_L_462 rfl ?_
  refine lq_iconst (v := 3) d_L_463 (by decide) ?_
  refine lq_iadd d_L_464 ?_
  refine lq_sld d_L_465 (sc_in (j := 3) rfl (by omega) hL) ?_
  refine lq_aload_n d_L_466 rfl ?_
  refine lq_iload_n d_L_467 rfl ?_
  refine lq_iconst (v := 4) d_L_468 (by decide) ?_
  refine lq_iadd d_L_469 ?_
  refine lq_sld d_L_470 (sc_in (j := 4) rfl (by omega) hL) ?_
  refine lq_virtI (m_drawn hM1 hI) rfl ml_L_53 so_M rfl rfl d_L_471 (fun r2 M2 q2 => ?_)
  obtain ⟨e2, w2, k2⟩ := q2
  subst e2
  refine lq_icmp_eq 1553 d_L_474 (by decide) (fun _ => K _ _ (RC.kept hI.2.1 hI.2.2.1 w1 k2) w2 hI) (fun h => absurd rfl h)
set_option maxRecDepth 100000 in
theorem lc_9 {Ln i : Nat} {xs : Nat → Int32} {M : Mem} {σ : Sg} (hL : Ln ≤ 3072) (hi : i + 6 ≤ Ln) (hC : RC M σ) (hM : RM M σ) (hI : Iv σ) (K : ∀ M2 σ2, RC M2 σ2 → RM M2 σ2 → Iv σ2 → LW Ln xs 1553 [some (.ref 9999), some (.ref 0), some (.ref 1000), some (.int (nI i))] [] M2) : LW Ln xs 479 [some (.ref 9999), some (.ref 0), some (.ref 1000), some (.int (nI i))] [] M := by
  refine lq_aload_n d_L_479 rfl ?_
  refine lq_aload_n d_L_480 rfl ?_
  refine lq_iload_n d_L_481 rfl ?_
  refine lq_iconst (v := 1) d_L_482 (by decide) ?_
  refine lq_iadd d_L_483 ?_
  refine lq_sld d_L_484 (sc_in (j := 1) rfl (by omega) hL) ?_
  refine lq_aload_n d_L_485 rfl ?_
  refine lq_iload_n d_L_486 rfl ?_
  refine lq_iconst (v := 2) d_L_487 (by decide) ?_
  refine lq_iadd d_L_488 ?_
  refine lq_sld d_L_489 (sc_in (j := 2) rfl (by omega) hL) ?_
  refine lq_virtI (c_set hC hI) rfl ml_L_54 so_C rfl rfl d_L_490 (fun r1 M1 q1 => ?_)
  obtain ⟨e1, w1, k1⟩ := q1
  subst e1
  have hM1 := hM.kept k1
  refine lq_aload_n d_L_493 rfl ?_
  refine lq_aload_n d_L_494 rfl ?_
  refine lq_iload_n d_L_495 rfl ?_
  refine lq_iconst (v := 1) d_L_496 (by decide) ?_
  refine lq_iadd d_L_497 ?_
  refine lq_sld d_L_498 (sc_in (j := 1) rfl (by omega) hL) ?_
  refine lq_aload_n d_L_499 rfl ?_
  refine lq_iload_n d_L_500 rfl ?_
  refine lq_iconst (v := 2) d_L_501 (by decide) ?_
  refine lq_iadd d_L_502 ?_
  refine lq_sld d_L_503 (sc_in (j := 2) rfl (by omega) hL) ?_
  refine lq_virtI (m_set hM1 hI) rfl ml_L_57 so_M rfl rfl d_L_504 (fun r2 M2 q2 => ?_)
  obtain ⟨e2, w2, k2⟩ := q2
  subst e2
  refine lq_icmp_eq 1553 d_L_507 (by decide) (fun _ => K _ _ (RC.kept (iv_set hI).2.1 (iv_set hI).2.2.1 w1 k2) w2 (iv_set hI)) (fun h => absurd rfl h)
set_option maxRecDepth 100000 in
theorem lc_10 {Ln i : Nat} {xs : Nat → Int32} {M : Mem} {σ : Sg} (hL : Ln ≤ 3072) (hi : i + 6 ≤ Ln) (hC : RC M σ) (hM : RM M σ) (hI : Iv σ) (K : ∀ M2 σ2, RC M2 σ2 → RM M2 σ2 → Iv σ2 → LW Ln xs 1553 [some (.ref 9999), some (.ref 0), some (.ref 1000), some (.int (nI i))] [] M2) : LW Ln xs 512 [some (.ref 9999), some (.ref 0), some (.ref 1000), some (.int (nI i))] [] M := by
  refine lq_aload_n d_L_512 rfl ?_
  refine lq_aload_n d_L_513 rfl ?_
  refine lq_iload_n d_L_514 rfl ?_
  refine lq_iconst (v := 1) d_L_515 (by decide) ?_
  refine lq_iadd d_L_516 ?_
  refine lq_sld d_L_517 (sc_in (j := 1) rfl (by omega) hL) ?_
  refine lq_aload_n d_L_518 rfl ?_
  refine lq_iload_n d_L_519 rfl ?_
  refine lq_iconst (v := 2) d_L_520 (by decide) ?_
  refine lq_iadd d_L_521 ?_
  refine lq_sld d_L_522 (sc_in (j := 2) rfl (by omega) hL) ?_
  refine lq_aload_n d_L_523 rfl ?_
  refine lq_iload_n d_L_524 rfl ?_
  refine lq_iconst (v := 3) d_L_525 (by decide) ?_
  refine lq_iadd d_L_526 ?_
  refine lq_sld d_L_527 (sc_in (j := 3) rfl (by omega) hL) ?_
  refine lq_aload_n d_L_528 rfl ?_
  refine lq_iload_n d_L_529 rfl ?_
  refine lq_iconst (v := 4) d_L_530 (by decide) ?_
  refine lq_iadd d_L_531 ?_
  refine lq_sld d_L_532 (sc_in (j := 4) rfl (by omega) hL) ?_
  refine lq_virtI (c_draw hC hI) rfl ml_L_58 so_C rfl rfl d_L_533 (fun r1 M1 q1 => ?_)
  obtain ⟨e1, w1, k1⟩ := q1
  subst e1
  have hM1 := hM.kept k1
  refine lq_aload_n d_L_536 rfl ?_
  refine lq_aload_n d_L_537 rfl ?_
  refine lq_iload_n d_L_538 rfl ?_
  refine lq_iconst (v := 1) d_L_539 (by decide) ?_
  refine lq_iadd d_L_540 ?_
  refine lq_sld d_L_541 (sc_in (j := 1) rfl (by omega) hL) ?_
  refine lq_aload_n d_L_542 rfl ?_
  refine lq_iload_n d_L_543 rfl ?_
  refine lq_iconst (v := 2) d_L_544 (by decide) ?_
  refine lq_iadd d_L_545 ?_
  refine lq_sld d_L_546 (sc_in (j := 2) rfl (by omega) hL) ?_
  refine lq_aload_n d_L_547 rfl ?_
  refine lq_iload_n d_L_548 rfl ?_
  refine lq_iconst (v := 3) d_L_549 (by decide) ?_
  refine lq_iadd d_L_550 ?_
  refine lq_sld d_L_551 (sc_in (j := 3) rfl (by omega) hL) ?_
  refine lq_aload_n d_L_552 rfl ?_
  refine lq_iload_n d_L_553 rfl ?_
  refine lq_iconst (v := 4) d_L_554 (by decide) ?_
  refine lq_iadd d_L_555 ?_
  refine lq_sld d_L_556 (sc_in (j := 4) rfl (by omega) hL) ?_
  refine lq_virtI (m_draw hM1 hI) rfl ml_L_61 so_M rfl rfl d_L_557 (fun r2 M2 q2 => ?_)
  obtain ⟨e2, w2, k2⟩ := q2
  subst e2
  refine lq_icmp_eq 1553 d_L_560 (by decide) (fun _ => K _ _ (RC.kept (iv_draw hI).2.1 (iv_draw hI).2.2.1 w1 k2) w2 (iv_draw hI)) (fun h => absurd rfl h)
set_option maxRecDepth 100000 in
theorem lc_11 {Ln i : Nat} {xs : Nat → Int32} {M : Mem} {σ : Sg} (hL : Ln ≤ 3072) (hi : i + 6 ≤ Ln) (hC : RC M σ) (hM : RM M σ) (hI : Iv σ) (K : ∀ M2 σ2, RC M2 σ2 → RM M2 σ2 → Iv σ2 → LW Ln xs 1553 [some (.ref 9999), some (.ref 0), some (.ref 1000), some (.int (nI i))] [] M2) : LW Ln xs 565 [some (.ref 9999), some (.ref 0), some (.ref 1000), some (.int (nI i))] [] M := by
  refine lq_aload_n d_L_565 rfl ?_
  refine lq_aload_n d_L_566 rfl ?_
  refine lq_iload_n d_L_567 rfl ?_
  refine lq_iconst (v := 1) d_L_568 (by decide) ?_
  refine lq_iadd d_L_569 ?_
  refine lq_sld d_L_570 (sc_in (j := 1) rfl (by omega) hL) ?_
  refine lq_aload_n d_L_571 rfl ?_
  refine lq_iload_n d_L_572 rfl ?_
  refine lq_iconst (v := 2) d_L_573 (by decide) ?_
  refine lq_iadd d_L_574 ?_
  refine lq_sld d_L_575 (sc_in (j := 2) rfl (by omega) hL) ?_
  refine lq_aload_n d_L_576 rfl ?_
  refine lq_iload_n d_L_577 rfl ?_
  refine lq_iconst (v := 3) d_L_578 (by decide) ?_
  refine lq_iadd d_L_579 ?_
  refine lq_sld d_L_580 (sc_in (j := 3) rfl (by omega) hL) ?_
  refine lq_virtI (c_copied hC hI) rfl ml_L_62 so_C rfl rfl d_L_581 (fun r1 M1 q1 => ?_)
  obtain ⟨e1, w1, k1⟩ := q1
  subst e1
  have hM1 := hM.kept k1
  refine lq_aload_n d_L_584 rfl ?_
  refine lq_aload_n d_L_585 rfl ?_
  refine lq_iload_n d_L_586 rfl ?_
  refine lq_iconst (v := 1) d_L_587 (by decide) ?_
  refine lq_iadd d_L_588 ?_
  refine lq_sld d_L_589 (sc_in (j := 1) rfl (by omega) hL) ?_
  refine lq_aload_n d_L_590 rfl ?_
  refine lq_iload_n d_L_591 rfl ?_
  refine lq_iconst (v := 2) d_L_592 (by decide) ?_
  refine lq_iadd d_L_593 ?_
  refine lq_sld d_L_594 (sc_in (j := 2) rfl (by omega) hL) ?_
  refine lq_aload_n d_L_595 rfl ?_
  refine lq_iload_n d_L_596 rfl ?_
  refine lq_iconst (v := 3) d_L_597 (by decide) ?_
  refine lq_iadd d_L_598 ?_
  refine lq_sld d_L_599 (sc_in (j := 3) rfl (by omega) hL) ?_
  refine lq_virtI (m_copied hM1 hI) rfl ml_L_65 so_M rfl rfl d_L_600 (fun r2 M2 q2 => ?_)
  obtain ⟨e2, w2, k2⟩ := q2
  subst e2
  refine lq_icmp_eq 1553 d_L_603 (by decide) (fun _ => K _ _ (RC.kept (iv_copied hI).2.1 (iv_copied hI).2.2.1 w1 k2) w2 (iv_copied hI)) (fun h => absurd rfl h)
set_option maxRecDepth 100000 in
theorem lc_12 {Ln i : Nat} {xs : Nat → Int32} {M : Mem} {σ : Sg} (hL : Ln ≤ 3072) (hi : i + 6 ≤ Ln) (hC : RC M σ) (hM : RM M σ) (hI : Iv σ) (K : ∀ M2 σ2, RC M2 σ2 → RM M2 σ2 → Iv σ2 → LW Ln xs 1553 [some (.ref 9999), some (.ref 0), some (.ref 1000), some (.int (nI i))] [] M2) : LW Ln xs 608 [some (.ref 9999), some (.ref 0), some (.ref 1000), some (.int (nI i))] [] M := by
  refine lq_aload_n d_L_608 rfl ?_
  refine lq_aload_n d_L_609 rfl ?_
  refine lq_iload_n d_L_610 rfl ?_
  refine lq_iconst (v := 1) d_L_611 (by decide) ?_
  refine lq_iadd d_L_612 ?_
  refine lq_sld d_L_613 (sc_in (j := 1) rfl (by omega) hL) ?_
  refine lq_aload_n d_L_614 rfl ?_
  refine lq_iload_n d_L_615 rfl ?_
  refine lq_iconst (v := 2) d_L_616 (by decide) ?_
  refine lq_iadd d_L_617 ?_
  refine lq_sld d_L_618 (sc_in (j := 2) rfl (by omega) hL) ?_
  refine lq_virtI (c_line hC hI) rfl ml_L_66 so_C rfl rfl d_L_619 (fun r1 M1 q1 => ?_)
  obtain ⟨e1, w1, k1⟩ := q1
  subst e1
  have hM1 := hM.kept k1
  refine lq_aload_n d_L_622 rfl ?_
  refine lq_aload_n d_L_623 rfl ?_
  refine lq_iload_n d_L_624 rfl ?_
  refine lq_iconst (v := 1) d_L_625 (by decide) ?_
  refine lq_iadd d_L_626 ?_
  refine lq_sld d_L_627 (sc_in (j := 1) rfl (by omega) hL) ?_
  refine lq_aload_n d_L_628 rfl ?_
  refine lq_iload_n d_L_629 rfl ?_
  refine lq_iconst (v := 2) d_L_630 (by decide) ?_
  refine lq_iadd d_L_631 ?_
  refine lq_sld d_L_632 (sc_in (j := 2) rfl (by omega) hL) ?_
  refine lq_virtI (m_line hM1 hI) rfl ml_L_69 so_M rfl rfl d_L_633 (fun r2 M2 q2 => ?_)
  obtain ⟨e2, w2, k2⟩ := q2
  subst e2
  refine lq_icmp_eq 1553 d_L_636 (by decide) (fun _ => K _ _ (RC.kept hI.2.1 hI.2.2.1 w1 k2) w2 hI) (fun h => absurd rfl h)
set_option maxRecDepth 100000 in
theorem lc_13 {Ln i : Nat} {xs : Nat → Int32} {M : Mem} {σ : Sg} (hL : Ln ≤ 3072) (hi : i + 6 ≤ Ln) (hC : RC M σ) (hM : RM M σ) (hI : Iv σ) (K : ∀ M2 σ2, RC M2 σ2 → RM M2 σ2 → Iv σ2 → LW Ln xs 1553 [some (.ref 9999), some (.ref 0), some (.ref 1000), some (.int (nI i))] [] M2) : LW Ln xs 641 [some (.ref 9999), some (.ref 0), some (.ref 1000), some (.int (nI i))] [] M := by
  refine lq_aload_n d_L_641 rfl ?_
  refine lq_aload_n d_L_642 rfl ?_
  refine lq_iload_n d_L_643 rfl ?_
  refine lq_iconst (v := 1) d_L_644 (by decide) ?_
  refine lq_iadd d_L_645 ?_
  refine lq_sld d_L_646 (sc_in (j := 1) rfl (by omega) hL) ?_
  refine lq_aload_n d_L_647 rfl ?_
  refine lq_iload_n d_L_648 rfl ?_
  refine lq_iconst (v := 2) d_L_649 (by decide) ?_
  refine lq_iadd d_L_650 ?_
  refine lq_sld d_L_651 (sc_in (j := 2) rfl (by omega) hL) ?_
  refine lq_virtI (c_about hC hI) rfl ml_L_70 so_C rfl rfl d_L_652 (fun r1 M1 q1 => ?_)
  obtain ⟨e1, w1, k1⟩ := q1
  subst e1
  have hM1 := hM.kept k1
  refine lq_aload_n d_L_655 rfl ?_
  refine lq_aload_n d_L_656 rfl ?_
  refine lq_iload_n d_L_657 rfl ?_
  refine lq_iconst (v := 1) d_L_658 (by decide) ?_
  refine lq_iadd d_L_659 ?_
  refine lq_sld d_L_660 (sc_in (j := 1) rfl (by omega) hL) ?_
  refine lq_aload_n d_L_661 rfl ?_
  refine lq_iload_n d_L_662 rfl ?_
  refine lq_iconst (v := 2) d_L_663 (by decide) ?_
  refine lq_iadd d_L_664 ?_
  refine lq_sld d_L_665 (sc_in (j := 2) rfl (by omega) hL) ?_
  refine lq_virtI (m_about hM1 hI) rfl ml_L_73 so_M rfl rfl d_L_666 (fun r2 M2 q2 => ?_)
  obtain ⟨e2, w2, k2⟩ := q2
  subst e2
  refine lq_icmp_eq 1553 d_L_669 (by decide) (fun _ => K _ _ (RC.kept hI.2.1 hI.2.2.1 w1 k2) w2 hI) (fun h => absurd rfl h)
set_option maxRecDepth 100000 in
theorem lc_14 {Ln i : Nat} {xs : Nat → Int32} {M : Mem} {σ : Sg} (hL : Ln ≤ 3072) (hi : i + 6 ≤ Ln) (hC : RC M σ) (hM : RM M σ) (hI : Iv σ) (K : ∀ M2 σ2, RC M2 σ2 → RM M2 σ2 → Iv σ2 → LW Ln xs 1553 [some (.ref 9999), some (.ref 0), some (.ref 1000), some (.int (nI i))] [] M2) : LW Ln xs 674 [some (.ref 9999), some (.ref 0), some (.ref 1000), some (.int (nI i))] [] M := by
  refine lq_aload_n d_L_674 rfl ?_
  refine lq_aload_n d_L_675 rfl ?_
  refine lq_iload_n d_L_676 rfl ?_
  refine lq_iconst (v := 1) d_L_677 (by decide) ?_
  refine lq_iadd d_L_678 ?_
  refine lq_sld d_L_679 (sc_in (j := 1) rfl (by omega) hL) ?_
  refine lq_aload_n d_L_680 rfl ?_
  refine lq_iload_n d_L_681 rfl ?_
  refine lq_iconst (v := 2) d_L_682 (by decide) ?_
  refine lq_iadd d_L_683 ?_
  refine lq_sld d_L_684 (sc_in (j := 2) rfl (by omega) hL) ?_
  refine lq_virtI (c_unlike hC hI) rfl ml_L_74 so_C rfl rfl d_L_685 (fun r1 M1 q1 => ?_)
  obtain ⟨e1, w1, k1⟩ := q1
  subst e1
  have hM1 := hM.kept k1
  refine lq_aload_n d_L_688 rfl ?_
  refine lq_aload_n d_L_689 rfl ?_
  refine lq_iload_n d_L_690 rfl ?_
  refine lq_iconst (v := 1) d_L_691 (by decide) ?_
  refine lq_iadd d_L_692 ?_
  refine lq_sld d_L_693 (sc_in (j := 1) rfl (by omega) hL) ?_
  refine lq_aload_n d_L_694 rfl ?_
  refine lq_iload_n d_L_695 rfl ?_
  refine lq_iconst (v := 2) d_L_696 (by decide) ?_
  refine lq_iadd d_L_697 ?_
  refine lq_sld d_L_698 (sc_in (j := 2) rfl (by omega) hL) ?_
  refine lq_virtI (m_unlike hM1 hI) rfl ml_L_77 so_M rfl rfl d_L_699 (fun r2 M2 q2 => ?_)
  obtain ⟨e2, w2, k2⟩ := q2
  subst e2
  refine lq_icmp_eq 1553 d_L_702 (by decide) (fun _ => K _ _ (RC.kept hI.2.1 hI.2.2.1 w1 k2) w2 hI) (fun h => absurd rfl h)
set_option maxRecDepth 100000 in
theorem lc_15 {Ln i : Nat} {xs : Nat → Int32} {M : Mem} {σ : Sg} (hL : Ln ≤ 3072) (hi : i + 6 ≤ Ln) (hC : RC M σ) (hM : RM M σ) (hI : Iv σ) (K : ∀ M2 σ2, RC M2 σ2 → RM M2 σ2 → Iv σ2 → LW Ln xs 1553 [some (.ref 9999), some (.ref 0), some (.ref 1000), some (.int (nI i))] [] M2) : LW Ln xs 707 [some (.ref 9999), some (.ref 0), some (.ref 1000), some (.int (nI i))] [] M := by
  refine lq_aload_n d_L_707 rfl ?_
  refine lq_aload_n d_L_708 rfl ?_
  refine lq_iload_n d_L_709 rfl ?_
  refine lq_iconst (v := 1) d_L_710 (by decide) ?_
  refine lq_iadd d_L_711 ?_
  refine lq_sld d_L_712 (sc_in (j := 1) rfl (by omega) hL) ?_
  refine lq_aload_n d_L_713 rfl ?_
  refine lq_iload_n d_L_714 rfl ?_
  refine lq_iconst (v := 2) d_L_715 (by decide) ?_
  refine lq_iadd d_L_716 ?_
  refine lq_sld d_L_717 (sc_in (j := 2) rfl (by omega) hL) ?_
  refine lq_virtI (c_knower hC hI) rfl ml_L_78 so_C rfl rfl d_L_718 (fun r1 M1 q1 => ?_)
  obtain ⟨e1, w1, k1⟩ := q1
  subst e1
  have hM1 := hM.kept k1
  refine lq_aload_n d_L_721 rfl ?_
  refine lq_aload_n d_L_722 rfl ?_
  refine lq_iload_n d_L_723 rfl ?_
  refine lq_iconst (v := 1) d_L_724 (by decide) ?_
  refine lq_iadd d_L_725 ?_
  refine lq_sld d_L_726 (sc_in (j := 1) rfl (by omega) hL) ?_
  refine lq_aload_n d_L_727 rfl ?_
  refine lq_iload_n d_L_728 rfl ?_
  refine lq_iconst (v := 2) d_L_729 (by decide) ?_
  refine lq_iadd d_L_730 ?_
  refine lq_sld d_L_731 (sc_in (j := 2) rfl (by omega) hL) ?_
  refine lq_virtI (m_knower hM1 hI) rfl ml_L_81 so_M rfl rfl d_L_732 (fun r2 M2 q2 => ?_)
  obtain ⟨e2, w2, k2⟩ := q2
  subst e2
  refine lq_icmp_eq 1553 d_L_735 (by decide) (fun _ => K _ _ (RC.kept (iv_knower hI).2.1 (iv_knower hI).2.2.1 w1 k2) w2 (iv_knower hI)) (fun h => absurd rfl h)
set_option maxRecDepth 100000 in
theorem lc_16 {Ln i : Nat} {xs : Nat → Int32} {M : Mem} {σ : Sg} (hL : Ln ≤ 3072) (hi : i + 6 ≤ Ln) (hC : RC M σ) (hM : RM M σ) (hI : Iv σ) (K : ∀ M2 σ2, RC M2 σ2 → RM M2 σ2 → Iv σ2 → LW Ln xs 1553 [some (.ref 9999), some (.ref 0), some (.ref 1000), some (.int (nI i))] [] M2) : LW Ln xs 740 [some (.ref 9999), some (.ref 0), some (.ref 1000), some (.int (nI i))] [] M := by
  refine lq_aload_n d_L_740 rfl ?_
  refine lq_aload_n d_L_741 rfl ?_
  refine lq_iload_n d_L_742 rfl ?_
  refine lq_iconst (v := 1) d_L_743 (by decide) ?_
  refine lq_iadd d_L_744 ?_
  refine lq_sld d_L_745 (sc_in (j := 1) rfl (by omega) hL) ?_
  refine lq_aload_n d_L_746 rfl ?_
  refine lq_iload_n d_L_747 rfl ?_
  refine lq_iconst (v := 2) d_L_748 (by decide) ?_
  refine lq_iadd d_L_749 ?_
  refine lq_sld d_L_750 (sc_in (j := 2) rfl (by omega) hL) ?_
  refine lq_aload_n d_L_751 rfl ?_
  refine lq_iload_n d_L_752 rfl ?_
  refine lq_iconst (v := 3) d_L_753 (by decide) ?_
  refine lq_iadd d_L_754 ?_
  refine lq_sld d_L_755 (sc_in (j := 3) rfl (by omega) hL) ?_
  refine lq_virtI (c_look hC hI) rfl ml_L_82 so_C rfl rfl d_L_756 (fun r1 M1 q1 => ?_)
  obtain ⟨e1, w1, k1⟩ := q1
  subst e1
  have hM1 := hM.kept k1
  refine lq_aload_n d_L_759 rfl ?_
  refine lq_aload_n d_L_760 rfl ?_
  refine lq_iload_n d_L_761 rfl ?_
  refine lq_iconst (v := 1) d_L_762 (by decide) ?_
  refine lq_iadd d_L_763 ?_
  refine lq_sld d_L_764 (sc_in (j := 1) rfl (by omega) hL) ?_
  refine lq_aload_n d_L_765 rfl ?_
  refine lq_iload_n d_L_766 rfl ?_
  refine lq_iconst (v := 2) d_L_767 (by decide) ?_
  refine lq_iadd d_L_768 ?_
  refine lq_sld d_L_769 (sc_in (j := 2) rfl (by omega) hL) ?_
  refine lq_aload_n d_L_770 rfl ?_
  refine lq_iload_n d_L_771 rfl ?_
  refine lq_iconst (v := 3) d_L_772 (by decide) ?_
  refine lq_iadd d_L_773 ?_
  refine lq_sld d_L_774 (sc_in (j := 3) rfl (by omega) hL) ?_
  refine lq_virtI (m_look hM1 hI) rfl ml_L_85 so_M rfl rfl d_L_775 (fun r2 M2 q2 => ?_)
  obtain ⟨e2, w2, k2⟩ := q2
  subst e2
  refine lq_icmp_eq 1553 d_L_778 (by decide) (fun _ => K _ _ (RC.kept (iv_look hI).2.1 (iv_look hI).2.2.1 w1 k2) w2 (iv_look hI)) (fun h => absurd rfl h)
set_option maxRecDepth 100000 in
theorem lc_17 {Ln i : Nat} {xs : Nat → Int32} {M : Mem} {σ : Sg} (hL : Ln ≤ 3072) (hi : i + 6 ≤ Ln) (hC : RC M σ) (hM : RM M σ) (hI : Iv σ) (K : ∀ M2 σ2, RC M2 σ2 → RM M2 σ2 → Iv σ2 → LW Ln xs 1553 [some (.ref 9999), some (.ref 0), some (.ref 1000), some (.int (nI i))] [] M2) : LW Ln xs 783 [some (.ref 9999), some (.ref 0), some (.ref 1000), some (.int (nI i))] [] M := by
  refine lq_aload_n d_L_783 rfl ?_
  refine lq_aload_n d_L_784 rfl ?_
  refine lq_iload_n d_L_785 rfl ?_
  refine lq_iconst (v := 1) d_L_786 (by decide) ?_
  refine lq_iadd d_L_787 ?_
  refine lq_sld d_L_788 (sc_in (j := 1) rfl (by omega) hL) ?_
  refine lq_aload_n d_L_789 rfl ?_
  refine lq_iload_n d_L_790 rfl ?_
  refine lq_iconst (v := 2) d_L_791 (by decide) ?_
  refine lq_iadd d_L_792 ?_
  refine lq_sld d_L_793 (sc_in (j := 2) rfl (by omega) hL) ?_
  refine lq_virtI (c_leans hC hI) rfl ml_L_86 so_C rfl rfl d_L_794 (fun r1 M1 q1 => ?_)
  obtain ⟨e1, w1, k1⟩ := q1
  subst e1
  have hM1 := hM.kept k1
  refine lq_aload_n d_L_797 rfl ?_
  refine lq_aload_n d_L_798 rfl ?_
  refine lq_iload_n d_L_799 rfl ?_
  refine lq_iconst (v := 1) d_L_800 (by decide) ?_
  refine lq_iadd d_L_801 ?_
  refine lq_sld d_L_802 (sc_in (j := 1) rfl (by omega) hL) ?_
  refine lq_aload_n d_L_803 rfl ?_
  refine lq_iload_n d_L_804 rfl ?_
  refine lq_iconst (v := 2) d_L_805 (by decide) ?_
  refine lq_iadd d_L_806 ?_
  refine lq_sld d_L_807 (sc_in (j := 2) rfl (by omega) hL) ?_
  refine lq_virtI (m_leans hM1 hI) rfl ml_L_89 so_M rfl rfl d_L_808 (fun r2 M2 q2 => ?_)
  obtain ⟨e2, w2, k2⟩ := q2
  subst e2
  refine lq_icmp_eq 1553 d_L_811 (by decide) (fun _ => K _ _ (RC.kept hI.2.1 hI.2.2.1 w1 k2) w2 hI) (fun h => absurd rfl h)
set_option maxRecDepth 100000 in
theorem lc_18 {Ln i : Nat} {xs : Nat → Int32} {M : Mem} {σ : Sg} (hL : Ln ≤ 3072) (hi : i + 6 ≤ Ln) (hC : RC M σ) (hM : RM M σ) (hI : Iv σ) (K : ∀ M2 σ2, RC M2 σ2 → RM M2 σ2 → Iv σ2 → LW Ln xs 1553 [some (.ref 9999), some (.ref 0), some (.ref 1000), some (.int (nI i))] [] M2) : LW Ln xs 816 [some (.ref 9999), some (.ref 0), some (.ref 1000), some (.int (nI i))] [] M := by
  refine lq_aload_n d_L_816 rfl ?_
  refine lq_aload_n d_L_817 rfl ?_
  refine lq_iload_n d_L_818 rfl ?_
  refine lq_iconst (v := 1) d_L_819 (by decide) ?_
  refine lq_iadd d_L_820 ?_
  refine lq_sld d_L_821 (sc_in (j := 1) rfl (by omega) hL) ?_
  refine lq_aload_n d_L_822 rfl ?_
  refine lq_iload_n d_L_823 rfl ?_
  refine lq_iconst (v := 2) d_L_824 (by decide) ?_
  refine lq_iadd d_L_825 ?_
  refine lq_sld d_L_826 (sc_in (j := 2) rfl (by omega) hL) ?_
  refine lq_aload_n d_L_827 rfl ?_
  refine lq_iload_n d_L_828 rfl ?_
  refine lq_iconst (v := 3) d_L_829 (by decide) ?_
  refine lq_iadd d_L_830 ?_
  refine lq_sld d_L_831 (sc_in (j := 3) rfl (by omega) hL) ?_
  refine lq_aload_n d_L_832 rfl ?_
  refine lq_iload_n d_L_833 rfl ?_
  refine lq_iconst (v := 4) d_L_834 (by decide) ?_
  refine lq_iadd d_L_835 ?_
  refine lq_sld d_L_836 (sc_in (j := 4) rfl (by omega) hL) ?_
  refine lq_virtJ (c_score hC hI) rfl ml_L_90 so_C rfl rfl d_L_837 (fun r1 M1 q1 => ?_)
  obtain ⟨e1, w1, k1⟩ := q1
  subst e1
  have hM1 := hM.kept k1
  refine lq_aload_n d_L_840 rfl ?_
  refine lq_aload_n d_L_841 rfl ?_
  refine lq_iload_n d_L_842 rfl ?_
  refine lq_iconst (v := 1) d_L_843 (by decide) ?_
  refine lq_iadd d_L_844 ?_
  refine lq_sld d_L_845 (sc_in (j := 1) rfl (by omega) hL) ?_
  refine lq_aload_n d_L_846 rfl ?_
  refine lq_iload_n d_L_847 rfl ?_
  refine lq_iconst (v := 2) d_L_848 (by decide) ?_
  refine lq_iadd d_L_849 ?_
  refine lq_sld d_L_850 (sc_in (j := 2) rfl (by omega) hL) ?_
  refine lq_aload_n d_L_851 rfl ?_
  refine lq_iload_n d_L_852 rfl ?_
  refine lq_iconst (v := 3) d_L_853 (by decide) ?_
  refine lq_iadd d_L_854 ?_
  refine lq_sld d_L_855 (sc_in (j := 3) rfl (by omega) hL) ?_
  refine lq_aload_n d_L_856 rfl ?_
  refine lq_iload_n d_L_857 rfl ?_
  refine lq_iconst (v := 4) d_L_858 (by decide) ?_
  refine lq_iadd d_L_859 ?_
  refine lq_sld d_L_860 (sc_in (j := 4) rfl (by omega) hL) ?_
  refine lq_virtJ (m_score hM1 hI) rfl ml_L_94 so_M rfl rfl d_L_861 (fun r2 M2 q2 => ?_)
  obtain ⟨e2, w2, k2⟩ := q2
  subst e2
  refine lq_lcmp d_L_864 ?_
  refine lq_if_eq 1553 d_L_865 (by decide) (fun _ => K _ _ (RC.kept hI.2.1 hI.2.2.1 w1 k2) w2 hI) (fun h => absurd (lgc_eq.mpr rfl) h)
set_option maxRecDepth 100000 in
theorem lc_19 {Ln i : Nat} {xs : Nat → Int32} {M : Mem} {σ : Sg} (hL : Ln ≤ 3072) (hi : i + 6 ≤ Ln) (hC : RC M σ) (hM : RM M σ) (hI : Iv σ) (K : ∀ M2 σ2, RC M2 σ2 → RM M2 σ2 → Iv σ2 → LW Ln xs 1553 [some (.ref 9999), some (.ref 0), some (.ref 1000), some (.int (nI i))] [] M2) : LW Ln xs 870 [some (.ref 9999), some (.ref 0), some (.ref 1000), some (.int (nI i))] [] M := by
  refine lq_aload_n d_L_870 rfl ?_
  refine lq_aload_n d_L_871 rfl ?_
  refine lq_iload_n d_L_872 rfl ?_
  refine lq_iconst (v := 1) d_L_873 (by decide) ?_
  refine lq_iadd d_L_874 ?_
  refine lq_sld d_L_875 (sc_in (j := 1) rfl (by omega) hL) ?_
  refine lq_aload_n d_L_876 rfl ?_
  refine lq_iload_n d_L_877 rfl ?_
  refine lq_iconst (v := 2) d_L_878 (by decide) ?_
  refine lq_iadd d_L_879 ?_
  refine lq_sld d_L_880 (sc_in (j := 2) rfl (by omega) hL) ?_
  refine lq_aload_n d_L_881 rfl ?_
  refine lq_iload_n d_L_882 rfl ?_
  refine lq_iconst (v := 3) d_L_883 (by decide) ?_
  refine lq_iadd d_L_884 ?_
  refine lq_sld d_L_885 (sc_in (j := 3) rfl (by omega) hL) ?_
  refine lq_virtI (c_named hC hI) rfl ml_L_95 so_C rfl rfl d_L_886 (fun r1 M1 q1 => ?_)
  obtain ⟨e1, w1, k1⟩ := q1
  subst e1
  have hM1 := hM.kept k1
  refine lq_aload_n d_L_889 rfl ?_
  refine lq_aload_n d_L_890 rfl ?_
  refine lq_iload_n d_L_891 rfl ?_
  refine lq_iconst (v := 1) d_L_892 (by decide) ?_
  refine lq_iadd d_L_893 ?_
  refine lq_sld d_L_894 (sc_in (j := 1) rfl (by omega) hL) ?_
  refine lq_aload_n d_L_895 rfl ?_
  refine lq_iload_n d_L_896 rfl ?_
  refine lq_iconst (v := 2) d_L_897 (by decide) ?_
  refine lq_iadd d_L_898 ?_
  refine lq_sld d_L_899 (sc_in (j := 2) rfl (by omega) hL) ?_
  refine lq_aload_n d_L_900 rfl ?_
  refine lq_iload_n d_L_901 rfl ?_
  refine lq_iconst (v := 3) d_L_902 (by decide) ?_
  refine lq_iadd d_L_903 ?_
  refine lq_sld d_L_904 (sc_in (j := 3) rfl (by omega) hL) ?_
  refine lq_virtI (m_named hM1 hI) rfl ml_L_98 so_M rfl rfl d_L_905 (fun r2 M2 q2 => ?_)
  obtain ⟨e2, w2, k2⟩ := q2
  subst e2
  refine lq_icmp_eq 1553 d_L_908 (by decide) (fun _ => K _ _ (RC.kept hI.2.1 hI.2.2.1 w1 k2) w2 hI) (fun h => absurd rfl h)
set_option maxRecDepth 100000 in
theorem lc_20 {Ln i : Nat} {xs : Nat → Int32} {M : Mem} {σ : Sg} (hL : Ln ≤ 3072) (hi : i + 6 ≤ Ln) (hC : RC M σ) (hM : RM M σ) (hI : Iv σ) (K : ∀ M2 σ2, RC M2 σ2 → RM M2 σ2 → Iv σ2 → LW Ln xs 1553 [some (.ref 9999), some (.ref 0), some (.ref 1000), some (.int (nI i))] [] M2) : LW Ln xs 913 [some (.ref 9999), some (.ref 0), some (.ref 1000), some (.int (nI i))] [] M := by
  refine lq_aload_n d_L_913 rfl ?_
  refine lq_aload_n d_L_914 rfl ?_
  refine lq_iload_n d_L_915 rfl ?_
  refine lq_iconst (v := 1) d_L_916 (by decide) ?_
  refine lq_iadd d_L_917 ?_
  refine lq_sld d_L_918 (sc_in (j := 1) rfl (by omega) hL) ?_
  refine lq_aload_n d_L_919 rfl ?_
  refine lq_iload_n d_L_920 rfl ?_
  refine lq_iconst (v := 2) d_L_921 (by decide) ?_
  refine lq_iadd d_L_922 ?_
  refine lq_sld d_L_923 (sc_in (j := 2) rfl (by omega) hL) ?_
  refine lq_aload_n d_L_924 rfl ?_
  refine lq_iload_n d_L_925 rfl ?_
  refine lq_iconst (v := 3) d_L_926 (by decide) ?_
  refine lq_iadd d_L_927 ?_
  refine lq_sld d_L_928 (sc_in (j := 3) rfl (by omega) hL) ?_
  refine lq_aload_n d_L_929 rfl ?_
  refine lq_iload_n d_L_930 rfl ?_
  refine lq_iconst (v := 4) d_L_931 (by decide) ?_
  refine lq_iadd d_L_932 ?_
  refine lq_sld d_L_933 (sc_in (j := 4) rfl (by omega) hL) ?_
  refine lq_virtI (c_much hC hI) rfl ml_L_99 so_C rfl rfl d_L_934 (fun r1 M1 q1 => ?_)
  obtain ⟨e1, w1, k1⟩ := q1
  subst e1
  have hM1 := hM.kept k1
  refine lq_aload_n d_L_937 rfl ?_
  refine lq_aload_n d_L_938 rfl ?_
  refine lq_iload_n d_L_939 rfl ?_
  refine lq_iconst (v := 1) d_L_940 (by decide) ?_
  refine lq_iadd d_L_941 ?_
  refine lq_sld d_L_942 (sc_in (j := 1) rfl (by omega) hL) ?_
  refine lq_aload_n d_L_943 rfl ?_
  refine lq_iload_n d_L_944 rfl ?_
  refine lq_iconst (v := 2) d_L_945 (by decide) ?_
  refine lq_iadd d_L_946 ?_
  refine lq_sld d_L_947 (sc_in (j := 2) rfl (by omega) hL) ?_
  refine lq_aload_n d_L_948 rfl ?_
  refine lq_iload_n d_L_949 rfl ?_
  refine lq_iconst (v := 3) d_L_950 (by decide) ?_
  refine lq_iadd d_L_951 ?_
  refine lq_sld d_L_952 (sc_in (j := 3) rfl (by omega) hL) ?_
  refine lq_aload_n d_L_953 rfl ?_
  refine lq_iload_n d_L_954 rfl ?_
  refine lq_iconst (v := 4) d_L_955 (by decide) ?_
  refine lq_iadd d_L_956 ?_
  refine lq_sld d_L_957 (sc_in (j := 4) rfl (by omega) hL) ?_
  refine lq_virtI (m_much hM1 hI) rfl ml_L_102 so_M rfl rfl d_L_958 (fun r2 M2 q2 => ?_)
  obtain ⟨e2, w2, k2⟩ := q2
  subst e2
  refine lq_icmp_eq 1553 d_L_961 (by decide) (fun _ => K _ _ (RC.kept hI.2.1 hI.2.2.1 w1 k2) w2 hI) (fun h => absurd rfl h)
set_option maxRecDepth 100000 in
theorem lc_21 {Ln i : Nat} {xs : Nat → Int32} {M : Mem} {σ : Sg} (hL : Ln ≤ 3072) (hi : i + 6 ≤ Ln) (hC : RC M σ) (hM : RM M σ) (hI : Iv σ) (K : ∀ M2 σ2, RC M2 σ2 → RM M2 σ2 → Iv σ2 → LW Ln xs 1553 [some (.ref 9999), some (.ref 0), some (.ref 1000), some (.int (nI i))] [] M2) : LW Ln xs 966 [some (.ref 9999), some (.ref 0), some (.ref 1000), some (.int (nI i))] [] M := by
  refine lq_aload_n d_L_966 rfl ?_
  refine lq_aload_n d_L_967 rfl ?_
  refine lq_iload_n d_L_968 rfl ?_
  refine lq_iconst (v := 1) d_L_969 (by decide) ?_
  refine lq_iadd d_L_970 ?_
  refine lq_sld d_L_971 (sc_in (j := 1) rfl (by omega) hL) ?_
  refine lq_aload_n d_L_972 rfl ?_
  refine lq_iload_n d_L_973 rfl ?_
  refine lq_iconst (v := 2) d_L_974 (by decide) ?_
  refine lq_iadd d_L_975 ?_
  refine lq_sld d_L_976 (sc_in (j := 2) rfl (by omega) hL) ?_
  refine lq_aload_n d_L_977 rfl ?_
  refine lq_iload_n d_L_978 rfl ?_
  refine lq_iconst (v := 3) d_L_979 (by decide) ?_
  refine lq_iadd d_L_980 ?_
  refine lq_sld d_L_981 (sc_in (j := 3) rfl (by omega) hL) ?_
  refine lq_aload_n d_L_982 rfl ?_
  refine lq_iload_n d_L_983 rfl ?_
  refine lq_iconst (v := 4) d_L_984 (by decide) ?_
  refine lq_iadd d_L_985 ?_
  refine lq_sld d_L_986 (sc_in (j := 4) rfl (by omega) hL) ?_
  refine lq_virtI (c_few hC hI) rfl ml_L_103 so_C rfl rfl d_L_987 (fun r1 M1 q1 => ?_)
  obtain ⟨e1, w1, k1⟩ := q1
  subst e1
  have hM1 := hM.kept k1
  refine lq_aload_n d_L_990 rfl ?_
  refine lq_aload_n d_L_991 rfl ?_
  refine lq_iload_n d_L_992 rfl ?_
  refine lq_iconst (v := 1) d_L_993 (by decide) ?_
  refine lq_iadd d_L_994 ?_
  refine lq_sld d_L_995 (sc_in (j := 1) rfl (by omega) hL) ?_
  refine lq_aload_n d_L_996 rfl ?_
  refine lq_iload_n d_L_997 rfl ?_
  refine lq_iconst (v := 2) d_L_998 (by decide) ?_
  refine lq_iadd d_L_999 ?_
  refine lq_sld d_L_1000 (sc_in (j := 2) rfl (by omega) hL) ?_
  refine lq_aload_n d_L_1001 rfl ?_
  refine lq_iload_n d_L_1002 rfl ?_
  refine lq_iconst (v := 3) d_L_1003 (by decide) ?_
  refine lq_iadd d_L_1004 ?_
  refine lq_sld d_L_1005 (sc_in (j := 3) rfl (by omega) hL) ?_
  refine lq_aload_n d_L_1006 rfl ?_
  refine lq_iload_n d_L_1007 rfl ?_
  refine lq_iconst (v := 4) d_L_1008 (by decide) ?_
  refine lq_iadd d_L_1009 ?_
  refine lq_sld d_L_1010 (sc_in (j := 4) rfl (by omega) hL) ?_
  refine lq_virtI (m_few hM1 hI) rfl ml_L_106 so_M rfl rfl d_L_1011 (fun r2 M2 q2 => ?_)
  obtain ⟨e2, w2, k2⟩ := q2
  subst e2
  refine lq_icmp_eq 1553 d_L_1014 (by decide) (fun _ => K _ _ (RC.kept hI.2.1 hI.2.2.1 w1 k2) w2 hI) (fun h => absurd rfl h)
set_option maxRecDepth 100000 in
theorem lc_22 {Ln i : Nat} {xs : Nat → Int32} {M : Mem} {σ : Sg} (hL : Ln ≤ 3072) (hi : i + 6 ≤ Ln) (hC : RC M σ) (hM : RM M σ) (hI : Iv σ) (K : ∀ M2 σ2, RC M2 σ2 → RM M2 σ2 → Iv σ2 → LW Ln xs 1553 [some (.ref 9999), some (.ref 0), some (.ref 1000), some (.int (nI i))] [] M2) : LW Ln xs 1019 [some (.ref 9999), some (.ref 0), some (.ref 1000), some (.int (nI i))] [] M := by
  refine lq_aload_n d_L_1019 rfl ?_
  refine lq_aload_n d_L_1020 rfl ?_
  refine lq_iload_n d_L_1021 rfl ?_
  refine lq_iconst (v := 1) d_L_1022 (by decide) ?_
  refine lq_iadd d_L_1023 ?_
  refine lq_sld d_L_1024 (sc_in (j := 1) rfl (by omega) hL) ?_
  refine lq_aload_n d_L_1025 rfl ?_
  refine lq_iload_n d_L_1026 rfl ?_
  refine lq_iconst (v := 2) d_L_1027 (by decide) ?_
  refine lq_iadd d_L_1028 ?_
  refine lq_sld d_L_1029 (sc_in (j := 2) rfl (by omega) hL) ?_
  refine lq_aload_n d_L_1030 rfl ?_
  refine lq_iload_n d_L_1031 rfl ?_
  refine lq_iconst (v := 3) d_L_1032 (by decide) ?_
  refine lq_iadd d_L_1033 ?_
  refine lq_sld d_L_1034 (sc_in (j := 3) rfl (by omega) hL) ?_
  refine lq_aload_n d_L_1035 rfl ?_
  refine lq_iload_n d_L_1036 rfl ?_
  refine lq_iconst (v := 4) d_L_1037 (by decide) ?_
  refine lq_iadd d_L_1038 ?_
  refine lq_sld d_L_1039 (sc_in (j := 4) rfl (by omega) hL) ?_
  refine lq_virtI (c_stands hC hI) rfl ml_L_107 so_C rfl rfl d_L_1040 (fun r1 M1 q1 => ?_)
  obtain ⟨e1, w1, k1⟩ := q1
  subst e1
  have hM1 := hM.kept k1
  refine lq_aload_n d_L_1043 rfl ?_
  refine lq_aload_n d_L_1044 rfl ?_
  refine lq_iload_n d_L_1045 rfl ?_
  refine lq_iconst (v := 1) d_L_1046 (by decide) ?_
  refine lq_iadd d_L_1047 ?_
  refine lq_sld d_L_1048 (sc_in (j := 1) rfl (by omega) hL) ?_
  refine lq_aload_n d_L_1049 rfl ?_
  refine lq_iload_n d_L_1050 rfl ?_
  refine lq_iconst (v := 2) d_L_1051 (by decide) ?_
  refine lq_iadd d_L_1052 ?_
  refine lq_sld d_L_1053 (sc_in (j := 2) rfl (by omega) hL) ?_
  refine lq_aload_n d_L_1054 rfl ?_
  refine lq_iload_n d_L_1055 rfl ?_
  refine lq_iconst (v := 3) d_L_1056 (by decide) ?_
  refine lq_iadd d_L_1057 ?_
  refine lq_sld d_L_1058 (sc_in (j := 3) rfl (by omega) hL) ?_
  refine lq_aload_n d_L_1059 rfl ?_
  refine lq_iload_n d_L_1060 rfl ?_
  refine lq_iconst (v := 4) d_L_1061 (by decide) ?_
  refine lq_iadd d_L_1062 ?_
  refine lq_sld d_L_1063 (sc_in (j := 4) rfl (by omega) hL) ?_
  refine lq_virtI (m_stands hM1 hI) rfl ml_L_110 so_M rfl rfl d_L_1064 (fun r2 M2 q2 => ?_)
  obtain ⟨e2, w2, k2⟩ := q2
  subst e2
  refine lq_icmp_eq 1553 d_L_1067 (by decide) (fun _ => K _ _ (RC.kept hI.2.1 hI.2.2.1 w1 k2) w2 hI) (fun h => absurd rfl h)
set_option maxRecDepth 100000 in
theorem lc_23 {Ln i : Nat} {xs : Nat → Int32} {M : Mem} {σ : Sg} (hL : Ln ≤ 3072) (hi : i + 6 ≤ Ln) (hC : RC M σ) (hM : RM M σ) (hI : Iv σ) (K : ∀ M2 σ2, RC M2 σ2 → RM M2 σ2 → Iv σ2 → LW Ln xs 1553 [some (.ref 9999), some (.ref 0), some (.ref 1000), some (.int (nI i))] [] M2) : LW Ln xs 1072 [some (.ref 9999), some (.ref 0), some (.ref 1000), some (.int (nI i))] [] M := by
  refine lq_aload_n d_L_1072 rfl ?_
  refine lq_aload_n d_L_1073 rfl ?_
  refine lq_iload_n d_L_1074 rfl ?_
  refine lq_iconst (v := 1) d_L_1075 (by decide) ?_
  refine lq_iadd d_L_1076 ?_
  refine lq_sld d_L_1077 (sc_in (j := 1) rfl (by omega) hL) ?_
  refine lq_aload_n d_L_1078 rfl ?_
  refine lq_iload_n d_L_1079 rfl ?_
  refine lq_iconst (v := 2) d_L_1080 (by decide) ?_
  refine lq_iadd d_L_1081 ?_
  refine lq_sld d_L_1082 (sc_in (j := 2) rfl (by omega) hL) ?_
  refine lq_aload_n d_L_1083 rfl ?_
  refine lq_iload_n d_L_1084 rfl ?_
  refine lq_iconst (v := 3) d_L_1085 (by decide) ?_
  refine lq_iadd d_L_1086 ?_
  refine lq_sld d_L_1087 (sc_in (j := 3) rfl (by omega) hL) ?_
  refine lq_virtJ (c_grows hC hI) rfl ml_L_111 so_C rfl rfl d_L_1088 (fun r1 M1 q1 => ?_)
  obtain ⟨e1, w1, k1⟩ := q1
  subst e1
  have hM1 := hM.kept k1
  refine lq_aload_n d_L_1091 rfl ?_
  refine lq_aload_n d_L_1092 rfl ?_
  refine lq_iload_n d_L_1093 rfl ?_
  refine lq_iconst (v := 1) d_L_1094 (by decide) ?_
  refine lq_iadd d_L_1095 ?_
  refine lq_sld d_L_1096 (sc_in (j := 1) rfl (by omega) hL) ?_
  refine lq_aload_n d_L_1097 rfl ?_
  refine lq_iload_n d_L_1098 rfl ?_
  refine lq_iconst (v := 2) d_L_1099 (by decide) ?_
  refine lq_iadd d_L_1100 ?_
  refine lq_sld d_L_1101 (sc_in (j := 2) rfl (by omega) hL) ?_
  refine lq_aload_n d_L_1102 rfl ?_
  refine lq_iload_n d_L_1103 rfl ?_
  refine lq_iconst (v := 3) d_L_1104 (by decide) ?_
  refine lq_iadd d_L_1105 ?_
  refine lq_sld d_L_1106 (sc_in (j := 3) rfl (by omega) hL) ?_
  refine lq_virtJ (m_grows hM1 hI) rfl ml_L_115 so_M rfl rfl d_L_1107 (fun r2 M2 q2 => ?_)
  obtain ⟨e2, w2, k2⟩ := q2
  subst e2
  refine lq_lcmp d_L_1110 ?_
  refine lq_if_eq 1553 d_L_1111 (by decide) (fun _ => K _ _ (RC.kept hI.2.1 hI.2.2.1 w1 k2) w2 hI) (fun h => absurd (lgc_eq.mpr rfl) h)
set_option maxRecDepth 100000 in
theorem lc_24 {Ln i : Nat} {xs : Nat → Int32} {M : Mem} {σ : Sg} (hL : Ln ≤ 3072) (hi : i + 6 ≤ Ln) (hC : RC M σ) (hM : RM M σ) (hI : Iv σ) (K : ∀ M2 σ2, RC M2 σ2 → RM M2 σ2 → Iv σ2 → LW Ln xs 1553 [some (.ref 9999), some (.ref 0), some (.ref 1000), some (.int (nI i))] [] M2) : LW Ln xs 1116 [some (.ref 9999), some (.ref 0), some (.ref 1000), some (.int (nI i))] [] M := by
  refine lq_aload_n d_L_1116 rfl ?_
  refine lq_aload_n d_L_1117 rfl ?_
  refine lq_iload_n d_L_1118 rfl ?_
  refine lq_iconst (v := 1) d_L_1119 (by decide) ?_
  refine lq_iadd d_L_1120 ?_
  refine lq_sld d_L_1121 (sc_in (j := 1) rfl (by omega) hL) ?_
  refine lq_aload_n d_L_1122 rfl ?_
  refine lq_iload_n d_L_1123 rfl ?_
  refine lq_iconst (v := 2) d_L_1124 (by decide) ?_
  refine lq_iadd d_L_1125 ?_
  refine lq_sld d_L_1126 (sc_in (j := 2) rfl (by omega) hL) ?_
  refine lq_aload_n d_L_1127 rfl ?_
  refine lq_iload_n d_L_1128 rfl ?_
  refine lq_iconst (v := 3) d_L_1129 (by decide) ?_
  refine lq_iadd d_L_1130 ?_
  refine lq_sld d_L_1131 (sc_in (j := 3) rfl (by omega) hL) ?_
  refine lq_virtI (c_back hC hI) rfl ml_L_116 so_C rfl rfl d_L_1132 (fun r1 M1 q1 => ?_)
  obtain ⟨e1, w1, k1⟩ := q1
  subst e1
  have hM1 := hM.kept k1
  refine lq_aload_n d_L_1135 rfl ?_
  refine lq_aload_n d_L_1136 rfl ?_
  refine lq_iload_n d_L_1137 rfl ?_
  refine lq_iconst (v := 1) d_L_1138 (by decide) ?_
  refine lq_iadd d_L_1139 ?_
  refine lq_sld d_L_1140 (sc_in (j := 1) rfl (by omega) hL) ?_
  refine lq_aload_n d_L_1141 rfl ?_
  refine lq_iload_n d_L_1142 rfl ?_
  refine lq_iconst (v := 2) d_L_1143 (by decide) ?_
  refine lq_iadd d_L_1144 ?_
  refine lq_sld d_L_1145 (sc_in (j := 2) rfl (by omega) hL) ?_
  refine lq_aload_n d_L_1146 rfl ?_
  refine lq_iload_n d_L_1147 rfl ?_
  refine lq_iconst (v := 3) d_L_1148 (by decide) ?_
  refine lq_iadd d_L_1149 ?_
  refine lq_sld d_L_1150 (sc_in (j := 3) rfl (by omega) hL) ?_
  refine lq_virtI (m_back hM1 hI) rfl ml_L_119 so_M rfl rfl d_L_1151 (fun r2 M2 q2 => ?_)
  obtain ⟨e2, w2, k2⟩ := q2
  subst e2
  refine lq_icmp_eq 1553 d_L_1154 (by decide) (fun _ => K _ _ (RC.kept hI.2.1 hI.2.2.1 w1 k2) w2 hI) (fun h => absurd rfl h)
set_option maxRecDepth 100000 in
theorem lc_25 {Ln i : Nat} {xs : Nat → Int32} {M : Mem} {σ : Sg} (hL : Ln ≤ 3072) (hi : i + 6 ≤ Ln) (hC : RC M σ) (hM : RM M σ) (hI : Iv σ) (K : ∀ M2 σ2, RC M2 σ2 → RM M2 σ2 → Iv σ2 → LW Ln xs 1553 [some (.ref 9999), some (.ref 0), some (.ref 1000), some (.int (nI i))] [] M2) : LW Ln xs 1159 [some (.ref 9999), some (.ref 0), some (.ref 1000), some (.int (nI i))] [] M := by
  refine lq_aload_n d_L_1159 rfl ?_
  refine lq_aload_n d_L_1160 rfl ?_
  refine lq_iload_n d_L_1161 rfl ?_
  refine lq_iconst (v := 1) d_L_1162 (by decide) ?_
  refine lq_iadd d_L_1163 ?_
  refine lq_sld d_L_1164 (sc_in (j := 1) rfl (by omega) hL) ?_
  refine lq_aload_n d_L_1165 rfl ?_
  refine lq_iload_n d_L_1166 rfl ?_
  refine lq_iconst (v := 2) d_L_1167 (by decide) ?_
  refine lq_iadd d_L_1168 ?_
  refine lq_sld d_L_1169 (sc_in (j := 2) rfl (by omega) hL) ?_
  refine lq_virtI (c_near hC hI) rfl ml_L_120 so_C rfl rfl d_L_1170 (fun r1 M1 q1 => ?_)
  obtain ⟨e1, w1, k1⟩ := q1
  subst e1
  have hM1 := hM.kept k1
  refine lq_aload_n d_L_1173 rfl ?_
  refine lq_aload_n d_L_1174 rfl ?_
  refine lq_iload_n d_L_1175 rfl ?_
  refine lq_iconst (v := 1) d_L_1176 (by decide) ?_
  refine lq_iadd d_L_1177 ?_
  refine lq_sld d_L_1178 (sc_in (j := 1) rfl (by omega) hL) ?_
  refine lq_aload_n d_L_1179 rfl ?_
  refine lq_iload_n d_L_1180 rfl ?_
  refine lq_iconst (v := 2) d_L_1181 (by decide) ?_
  refine lq_iadd d_L_1182 ?_
  refine lq_sld d_L_1183 (sc_in (j := 2) rfl (by omega) hL) ?_
  refine lq_virtI (m_near hM1 hI) rfl ml_L_123 so_M rfl rfl d_L_1184 (fun r2 M2 q2 => ?_)
  obtain ⟨e2, w2, k2⟩ := q2
  subst e2
  refine lq_icmp_eq 1553 d_L_1187 (by decide) (fun _ => K _ _ (RC.kept hI.2.1 hI.2.2.1 w1 k2) w2 hI) (fun h => absurd rfl h)
set_option maxRecDepth 100000 in
theorem lc_26 {Ln i : Nat} {xs : Nat → Int32} {M : Mem} {σ : Sg} (hL : Ln ≤ 3072) (hi : i + 6 ≤ Ln) (hC : RC M σ) (hM : RM M σ) (hI : Iv σ) (K : ∀ M2 σ2, RC M2 σ2 → RM M2 σ2 → Iv σ2 → LW Ln xs 1553 [some (.ref 9999), some (.ref 0), some (.ref 1000), some (.int (nI i))] [] M2) : LW Ln xs 1192 [some (.ref 9999), some (.ref 0), some (.ref 1000), some (.int (nI i))] [] M := by
  refine lq_aload_n d_L_1192 rfl ?_
  refine lq_aload_n d_L_1193 rfl ?_
  refine lq_iload_n d_L_1194 rfl ?_
  refine lq_iconst (v := 1) d_L_1195 (by decide) ?_
  refine lq_iadd d_L_1196 ?_
  refine lq_sld d_L_1197 (sc_in (j := 1) rfl (by omega) hL) ?_
  refine lq_aload_n d_L_1198 rfl ?_
  refine lq_iload_n d_L_1199 rfl ?_
  refine lq_iconst (v := 2) d_L_1200 (by decide) ?_
  refine lq_iadd d_L_1201 ?_
  refine lq_sld d_L_1202 (sc_in (j := 2) rfl (by omega) hL) ?_
  refine lq_aload_n d_L_1203 rfl ?_
  refine lq_iload_n d_L_1204 rfl ?_
  refine lq_iconst (v := 3) d_L_1205 (by decide) ?_
  refine lq_iadd d_L_1206 ?_
  refine lq_sld d_L_1207 (sc_in (j := 3) rfl (by omega) hL) ?_
  refine lq_virtI (c_witness hC hI) rfl ml_L_124 so_C rfl rfl d_L_1208 (fun r1 M1 q1 => ?_)
  obtain ⟨e1, w1, k1⟩ := q1
  subst e1
  have hM1 := hM.kept k1
  refine lq_aload_n d_L_1211 rfl ?_
  refine lq_aload_n d_L_1212 rfl ?_
  refine lq_iload_n d_L_1213 rfl ?_
  refine lq_iconst (v := 1) d_L_1214 (by decide) ?_
  refine lq_iadd d_L_1215 ?_
  refine lq_sld d_L_1216 (sc_in (j := 1) rfl (by omega) hL) ?_
  refine lq_aload_n d_L_1217 rfl ?_
  refine lq_iload_n d_L_1218 rfl ?_
  refine lq_iconst (v := 2) d_L_1219 (by decide) ?_
  refine lq_iadd d_L_1220 ?_
  refine lq_sld d_L_1221 (sc_in (j := 2) rfl (by omega) hL) ?_
  refine lq_aload_n d_L_1222 rfl ?_
  refine lq_iload_n d_L_1223 rfl ?_
  refine lq_iconst (v := 3) d_L_1224 (by decide) ?_
  refine lq_iadd d_L_1225 ?_
  refine lq_sld d_L_1226 (sc_in (j := 3) rfl (by omega) hL) ?_
  refine lq_virtI (m_witness hM1 hI) rfl ml_L_127 so_M rfl rfl d_L_1227 (fun r2 M2 q2 => ?_)
  obtain ⟨e2, w2, k2⟩ := q2
  subst e2
  refine lq_icmp_eq 1553 d_L_1230 (by decide) (fun _ => K _ _ (RC.kept hI.2.1 hI.2.2.1 w1 k2) w2 hI) (fun h => absurd rfl h)
set_option maxRecDepth 100000 in
theorem lc_27 {Ln i : Nat} {xs : Nat → Int32} {M : Mem} {σ : Sg} (hL : Ln ≤ 3072) (hi : i + 6 ≤ Ln) (hC : RC M σ) (hM : RM M σ) (hI : Iv σ) (K : ∀ M2 σ2, RC M2 σ2 → RM M2 σ2 → Iv σ2 → LW Ln xs 1553 [some (.ref 9999), some (.ref 0), some (.ref 1000), some (.int (nI i))] [] M2) : LW Ln xs 1235 [some (.ref 9999), some (.ref 0), some (.ref 1000), some (.int (nI i))] [] M := by
  refine lq_aload_n d_L_1235 rfl ?_
  refine lq_aload_n d_L_1236 rfl ?_
  refine lq_iload_n d_L_1237 rfl ?_
  refine lq_iconst (v := 1) d_L_1238 (by decide) ?_
  refine lq_iadd d_L_1239 ?_
  refine lq_sld d_L_1240 (sc_in (j := 1) rfl (by omega) hL) ?_
  refine lq_virtI (c_plainest hC hI) rfl ml_L_128 so_C rfl rfl d_L_1241 (fun r1 M1 q1 => ?_)
  obtain ⟨e1, w1, k1⟩ := q1
  subst e1
  have hM1 := hM.kept k1
  refine lq_aload_n d_L_1244 rfl ?_
  refine lq_aload_n d_L_1245 rfl ?_
  refine lq_iload_n d_L_1246 rfl ?_
  refine lq_iconst (v := 1) d_L_1247 (by decide) ?_
  refine lq_iadd d_L_1248 ?_
  refine lq_sld d_L_1249 (sc_in (j := 1) rfl (by omega) hL) ?_
  refine lq_virtI (m_plainest hM1 hI) rfl ml_L_131 so_M rfl rfl d_L_1250 (fun r2 M2 q2 => ?_)
  obtain ⟨e2, w2, k2⟩ := q2
  subst e2
  refine lq_icmp_eq 1553 d_L_1253 (by decide) (fun _ => K _ _ (RC.kept hI.2.1 hI.2.2.1 w1 k2) w2 hI) (fun h => absurd rfl h)
set_option maxRecDepth 100000 in
theorem lc_28 {Ln i : Nat} {xs : Nat → Int32} {M : Mem} {σ : Sg} (hL : Ln ≤ 3072) (hi : i + 6 ≤ Ln) (hC : RC M σ) (hM : RM M σ) (hI : Iv σ) (K : ∀ M2 σ2, RC M2 σ2 → RM M2 σ2 → Iv σ2 → LW Ln xs 1553 [some (.ref 9999), some (.ref 0), some (.ref 1000), some (.int (nI i))] [] M2) : LW Ln xs 1258 [some (.ref 9999), some (.ref 0), some (.ref 1000), some (.int (nI i))] [] M := by
  refine lq_aload_n d_L_1258 rfl ?_
  refine lq_aload_n d_L_1259 rfl ?_
  refine lq_iload_n d_L_1260 rfl ?_
  refine lq_iconst (v := 1) d_L_1261 (by decide) ?_
  refine lq_iadd d_L_1262 ?_
  refine lq_sld d_L_1263 (sc_in (j := 1) rfl (by omega) hL) ?_
  refine lq_aload_n d_L_1264 rfl ?_
  refine lq_iload_n d_L_1265 rfl ?_
  refine lq_iconst (v := 2) d_L_1266 (by decide) ?_
  refine lq_iadd d_L_1267 ?_
  refine lq_sld d_L_1268 (sc_in (j := 2) rfl (by omega) hL) ?_
  refine lq_aload_n d_L_1269 rfl ?_
  refine lq_iload_n d_L_1270 rfl ?_
  refine lq_iconst (v := 3) d_L_1271 (by decide) ?_
  refine lq_iadd d_L_1272 ?_
  refine lq_sld d_L_1273 (sc_in (j := 3) rfl (by omega) hL) ?_
  refine lq_virtI (c_sheet hC hI) rfl ml_L_132 so_C rfl rfl d_L_1274 (fun r1 M1 q1 => ?_)
  obtain ⟨e1, w1, k1⟩ := q1
  subst e1
  have hM1 := hM.kept k1
  refine lq_aload_n d_L_1277 rfl ?_
  refine lq_aload_n d_L_1278 rfl ?_
  refine lq_iload_n d_L_1279 rfl ?_
  refine lq_iconst (v := 1) d_L_1280 (by decide) ?_
  refine lq_iadd d_L_1281 ?_
  refine lq_sld d_L_1282 (sc_in (j := 1) rfl (by omega) hL) ?_
  refine lq_aload_n d_L_1283 rfl ?_
  refine lq_iload_n d_L_1284 rfl ?_
  refine lq_iconst (v := 2) d_L_1285 (by decide) ?_
  refine lq_iadd d_L_1286 ?_
  refine lq_sld d_L_1287 (sc_in (j := 2) rfl (by omega) hL) ?_
  refine lq_aload_n d_L_1288 rfl ?_
  refine lq_iload_n d_L_1289 rfl ?_
  refine lq_iconst (v := 3) d_L_1290 (by decide) ?_
  refine lq_iadd d_L_1291 ?_
  refine lq_sld d_L_1292 (sc_in (j := 3) rfl (by omega) hL) ?_
  refine lq_virtI (m_sheet hM1 hI) rfl ml_L_135 so_M rfl rfl d_L_1293 (fun r2 M2 q2 => ?_)
  obtain ⟨e2, w2, k2⟩ := q2
  subst e2
  refine lq_icmp_eq 1553 d_L_1296 (by decide) (fun _ => K _ _ (RC.kept (iv_sheet hI).2.1 (iv_sheet hI).2.2.1 w1 k2) w2 (iv_sheet hI)) (fun h => absurd rfl h)
set_option maxRecDepth 100000 in
theorem lc_29 {Ln i : Nat} {xs : Nat → Int32} {M : Mem} {σ : Sg} (hL : Ln ≤ 3072) (hi : i + 6 ≤ Ln) (hC : RC M σ) (hM : RM M σ) (hI : Iv σ) (K : ∀ M2 σ2, RC M2 σ2 → RM M2 σ2 → Iv σ2 → LW Ln xs 1553 [some (.ref 9999), some (.ref 0), some (.ref 1000), some (.int (nI i))] [] M2) : LW Ln xs 1301 [some (.ref 9999), some (.ref 0), some (.ref 1000), some (.int (nI i))] [] M := by
  refine lq_aload_n d_L_1301 rfl ?_
  refine lq_aload_n d_L_1302 rfl ?_
  refine lq_iload_n d_L_1303 rfl ?_
  refine lq_iconst (v := 1) d_L_1304 (by decide) ?_
  refine lq_iadd d_L_1305 ?_
  refine lq_sld d_L_1306 (sc_in (j := 1) rfl (by omega) hL) ?_
  refine lq_virtI (c_lose hC hI) rfl ml_L_136 so_C rfl rfl d_L_1307 (fun r1 M1 q1 => ?_)
  obtain ⟨e1, w1, k1⟩ := q1
  subst e1
  have hM1 := hM.kept k1
  refine lq_aload_n d_L_1310 rfl ?_
  refine lq_aload_n d_L_1311 rfl ?_
  refine lq_iload_n d_L_1312 rfl ?_
  refine lq_iconst (v := 1) d_L_1313 (by decide) ?_
  refine lq_iadd d_L_1314 ?_
  refine lq_sld d_L_1315 (sc_in (j := 1) rfl (by omega) hL) ?_
  refine lq_virtI (m_lose hM1 hI) rfl ml_L_139 so_M rfl rfl d_L_1316 (fun r2 M2 q2 => ?_)
  obtain ⟨e2, w2, k2⟩ := q2
  subst e2
  refine lq_icmp_eq 1553 d_L_1319 (by decide) (fun _ => K _ _ (RC.kept (iv_lose hI).2.1 (iv_lose hI).2.2.1 w1 k2) w2 (iv_lose hI)) (fun h => absurd rfl h)
set_option maxRecDepth 100000 in
theorem lc_30 {Ln i : Nat} {xs : Nat → Int32} {M : Mem} {σ : Sg} (hL : Ln ≤ 3072) (hi : i + 6 ≤ Ln) (hC : RC M σ) (hM : RM M σ) (hI : Iv σ) (K : ∀ M2 σ2, RC M2 σ2 → RM M2 σ2 → Iv σ2 → LW Ln xs 1553 [some (.ref 9999), some (.ref 0), some (.ref 1000), some (.int (nI i))] [] M2) : LW Ln xs 1324 [some (.ref 9999), some (.ref 0), some (.ref 1000), some (.int (nI i))] [] M := by
  refine lq_aload_n d_L_1324 rfl ?_
  refine lq_aload_n d_L_1325 rfl ?_
  refine lq_iload_n d_L_1326 rfl ?_
  refine lq_iconst (v := 1) d_L_1327 (by decide) ?_
  refine lq_iadd d_L_1328 ?_
  refine lq_sld d_L_1329 (sc_in (j := 1) rfl (by omega) hL) ?_
  refine lq_aload_n d_L_1330 rfl ?_
  refine lq_iload_n d_L_1331 rfl ?_
  refine lq_iconst (v := 2) d_L_1332 (by decide) ?_
  refine lq_iadd d_L_1333 ?_
  refine lq_sld d_L_1334 (sc_in (j := 2) rfl (by omega) hL) ?_
  refine lq_aload_n d_L_1335 rfl ?_
  refine lq_iload_n d_L_1336 rfl ?_
  refine lq_iconst (v := 3) d_L_1337 (by decide) ?_
  refine lq_iadd d_L_1338 ?_
  refine lq_sld d_L_1339 (sc_in (j := 3) rfl (by omega) hL) ?_
  refine lq_aload_n d_L_1340 rfl ?_
  refine lq_iload_n d_L_1341 rfl ?_
  refine lq_iconst (v := 4) d_L_1342 (by decide) ?_
  refine lq_iadd d_L_1343 ?_
  refine lq_sld d_L_1344 (sc_in (j := 4) rfl (by omega) hL) ?_
  refine lq_virtI (c_lay hC hI) rfl ml_L_140 so_C rfl rfl d_L_1345 (fun r1 M1 q1 => ?_)
  obtain ⟨e1, w1, k1⟩ := q1
  subst e1
  have hM1 := hM.kept k1
  refine lq_aload_n d_L_1348 rfl ?_
  refine lq_aload_n d_L_1349 rfl ?_
  refine lq_iload_n d_L_1350 rfl ?_
  refine lq_iconst (v := 1) d_L_1351 (by decide) ?_
  refine lq_iadd d_L_1352 ?_
  refine lq_sld d_L_1353 (sc_in (j := 1) rfl (by omega) hL) ?_
  refine lq_aload_n d_L_1354 rfl ?_
  refine lq_iload_n d_L_1355 rfl ?_
  refine lq_iconst (v := 2) d_L_1356 (by decide) ?_
  refine lq_iadd d_L_1357 ?_
  refine lq_sld d_L_1358 (sc_in (j := 2) rfl (by omega) hL) ?_
  refine lq_aload_n d_L_1359 rfl ?_
  refine lq_iload_n d_L_1360 rfl ?_
  refine lq_iconst (v := 3) d_L_1361 (by decide) ?_
  refine lq_iadd d_L_1362 ?_
  refine lq_sld d_L_1363 (sc_in (j := 3) rfl (by omega) hL) ?_
  refine lq_aload_n d_L_1364 rfl ?_
  refine lq_iload_n d_L_1365 rfl ?_
  refine lq_iconst (v := 4) d_L_1366 (by decide) ?_
  refine lq_iadd d_L_1367 ?_
  refine lq_sld d_L_1368 (sc_in (j := 4) rfl (by omega) hL) ?_
  refine lq_virtI (m_lay hM1 hI) rfl ml_L_143 so_M rfl rfl d_L_1369 (fun r2 M2 q2 => ?_)
  obtain ⟨e2, w2, k2⟩ := q2
  subst e2
  refine lq_icmp_eq 1553 d_L_1372 (by decide) (fun _ => K _ _ (RC.kept (iv_lay hI).2.1 (iv_lay hI).2.2.1 w1 k2) w2 (iv_lay hI)) (fun h => absurd rfl h)
set_option maxRecDepth 100000 in
theorem lc_31 {Ln i : Nat} {xs : Nat → Int32} {M : Mem} {σ : Sg} (hL : Ln ≤ 3072) (hi : i + 6 ≤ Ln) (hC : RC M σ) (hM : RM M σ) (hI : Iv σ) (K : ∀ M2 σ2, RC M2 σ2 → RM M2 σ2 → Iv σ2 → LW Ln xs 1553 [some (.ref 9999), some (.ref 0), some (.ref 1000), some (.int (nI i))] [] M2) : LW Ln xs 1377 [some (.ref 9999), some (.ref 0), some (.ref 1000), some (.int (nI i))] [] M := by
  refine lq_aload_n d_L_1377 rfl ?_
  refine lq_aload_n d_L_1378 rfl ?_
  refine lq_iload_n d_L_1379 rfl ?_
  refine lq_iconst (v := 1) d_L_1380 (by decide) ?_
  refine lq_iadd d_L_1381 ?_
  refine lq_sld d_L_1382 (sc_in (j := 1) rfl (by omega) hL) ?_
  refine lq_aload_n d_L_1383 rfl ?_
  refine lq_iload_n d_L_1384 rfl ?_
  refine lq_iconst (v := 2) d_L_1385 (by decide) ?_
  refine lq_iadd d_L_1386 ?_
  refine lq_sld d_L_1387 (sc_in (j := 2) rfl (by omega) hL) ?_
  refine lq_aload_n d_L_1388 rfl ?_
  refine lq_iload_n d_L_1389 rfl ?_
  refine lq_iconst (v := 3) d_L_1390 (by decide) ?_
  refine lq_iadd d_L_1391 ?_
  refine lq_sld d_L_1392 (sc_in (j := 3) rfl (by omega) hL) ?_
  refine lq_virtI (c_get hC hI) rfl ml_L_144 so_C rfl rfl d_L_1393 (fun r1 M1 q1 => ?_)
  obtain ⟨e1, w1, k1⟩ := q1
  subst e1
  have hM1 := hM.kept k1
  refine lq_aload_n d_L_1396 rfl ?_
  refine lq_aload_n d_L_1397 rfl ?_
  refine lq_iload_n d_L_1398 rfl ?_
  refine lq_iconst (v := 1) d_L_1399 (by decide) ?_
  refine lq_iadd d_L_1400 ?_
  refine lq_sld d_L_1401 (sc_in (j := 1) rfl (by omega) hL) ?_
  refine lq_aload_n d_L_1402 rfl ?_
  refine lq_iload_n d_L_1403 rfl ?_
  refine lq_iconst (v := 2) d_L_1404 (by decide) ?_
  refine lq_iadd d_L_1405 ?_
  refine lq_sld d_L_1406 (sc_in (j := 2) rfl (by omega) hL) ?_
  refine lq_aload_n d_L_1407 rfl ?_
  refine lq_iload_n d_L_1408 rfl ?_
  refine lq_iconst (v := 3) d_L_1409 (by decide) ?_
  refine lq_iadd d_L_1410 ?_
  refine lq_sld d_L_1411 (sc_in (j := 3) rfl (by omega) hL) ?_
  refine lq_virtI (m_get hM1 hI) rfl ml_L_147 so_M rfl rfl d_L_1412 (fun r2 M2 q2 => ?_)
  obtain ⟨e2, w2, k2⟩ := q2
  subst e2
  refine lq_icmp_eq 1553 d_L_1415 (by decide) (fun _ => K _ _ (RC.kept (iv_get hI).2.1 (iv_get hI).2.2.1 w1 k2) w2 (iv_get hI)) (fun h => absurd rfl h)
set_option maxRecDepth 100000 in
theorem lc_32 {Ln i : Nat} {xs : Nat → Int32} {M : Mem} {σ : Sg} (hL : Ln ≤ 3072) (hi : i + 6 ≤ Ln) (hC : RC M σ) (hM : RM M σ) (hI : Iv σ) (K : ∀ M2 σ2, RC M2 σ2 → RM M2 σ2 → Iv σ2 → LW Ln xs 1553 [some (.ref 9999), some (.ref 0), some (.ref 1000), some (.int (nI i))] [] M2) : LW Ln xs 1420 [some (.ref 9999), some (.ref 0), some (.ref 1000), some (.int (nI i))] [] M := by
  refine lq_aload_n d_L_1420 rfl ?_
  refine lq_aload_n d_L_1421 rfl ?_
  refine lq_iload_n d_L_1422 rfl ?_
  refine lq_iconst (v := 1) d_L_1423 (by decide) ?_
  refine lq_iadd d_L_1424 ?_
  refine lq_sld d_L_1425 (sc_in (j := 1) rfl (by omega) hL) ?_
  refine lq_aload_n d_L_1426 rfl ?_
  refine lq_iload_n d_L_1427 rfl ?_
  refine lq_iconst (v := 2) d_L_1428 (by decide) ?_
  refine lq_iadd d_L_1429 ?_
  refine lq_sld d_L_1430 (sc_in (j := 2) rfl (by omega) hL) ?_
  refine lq_aload_n d_L_1431 rfl ?_
  refine lq_iload_n d_L_1432 rfl ?_
  refine lq_iconst (v := 3) d_L_1433 (by decide) ?_
  refine lq_iadd d_L_1434 ?_
  refine lq_sld d_L_1435 (sc_in (j := 3) rfl (by omega) hL) ?_
  refine lq_aload_n d_L_1436 rfl ?_
  refine lq_iload_n d_L_1437 rfl ?_
  refine lq_iconst (v := 4) d_L_1438 (by decide) ?_
  refine lq_iadd d_L_1439 ?_
  refine lq_sld d_L_1440 (sc_in (j := 4) rfl (by omega) hL) ?_
  refine lq_aload_n d_L_1441 rfl ?_
  refine lq_iload_n d_L_1442 rfl ?_
  refine lq_iconst (v := 5) d_L_1443 (by decide) ?_
  refine lq_iadd d_L_1444 ?_
  refine lq_sld d_L_1445 (sc_in (j := 5) rfl (by omega) hL) ?_
  refine lq_virtI (c_copy hC hI) rfl ml_L_148 so_C rfl rfl d_L_1446 (fun r1 M1 q1 => ?_)
  obtain ⟨e1, w1, k1⟩ := q1
  subst e1
  have hM1 := hM.kept k1
  refine lq_aload_n d_L_1449 rfl ?_
  refine lq_aload_n d_L_1450 rfl ?_
  refine lq_iload_n d_L_1451 rfl ?_
  refine lq_iconst (v := 1) d_L_1452 (by decide) ?_
  refine lq_iadd d_L_1453 ?_
  refine lq_sld d_L_1454 (sc_in (j := 1) rfl (by omega) hL) ?_
  refine lq_aload_n d_L_1455 rfl ?_
  refine lq_iload_n d_L_1456 rfl ?_
  refine lq_iconst (v := 2) d_L_1457 (by decide) ?_
  refine lq_iadd d_L_1458 ?_
  refine lq_sld d_L_1459 (sc_in (j := 2) rfl (by omega) hL) ?_
  refine lq_aload_n d_L_1460 rfl ?_
  refine lq_iload_n d_L_1461 rfl ?_
  refine lq_iconst (v := 3) d_L_1462 (by decide) ?_
  refine lq_iadd d_L_1463 ?_
  refine lq_sld d_L_1464 (sc_in (j := 3) rfl (by omega) hL) ?_
  refine lq_aload_n d_L_1465 rfl ?_
  refine lq_iload_n d_L_1466 rfl ?_
  refine lq_iconst (v := 4) d_L_1467 (by decide) ?_
  refine lq_iadd d_L_1468 ?_
  refine lq_sld d_L_1469 (sc_in (j := 4) rfl (by omega) hL) ?_
  refine lq_aload_n d_L_1470 rfl ?_
  refine lq_iload_n d_L_1471 rfl ?_
  refine lq_iconst (v := 5) d_L_1472 (by decide) ?_
  refine lq_iadd d_L_1473 ?_
  refine lq_sld d_L_1474 (sc_in (j := 5) rfl (by omega) hL) ?_
  refine lq_virtI (m_copy hM1 hI) rfl ml_L_152 so_M rfl rfl d_L_1475 (fun r2 M2 q2 => ?_)
  obtain ⟨e2, w2, k2⟩ := q2
  subst e2
  refine lq_icmp_eq 1553 d_L_1478 (by decide) (fun _ => K _ _ (RC.kept (iv_copy hI).2.1 (iv_copy hI).2.2.1 w1 k2) w2 (iv_copy hI)) (fun h => absurd rfl h)
set_option maxRecDepth 100000 in
theorem lc_33 {Ln i : Nat} {xs : Nat → Int32} {M : Mem} {σ : Sg} (hL : Ln ≤ 3072) (hi : i + 6 ≤ Ln) (hC : RC M σ) (hM : RM M σ) (hI : Iv σ) (K : ∀ M2 σ2, RC M2 σ2 → RM M2 σ2 → Iv σ2 → LW Ln xs 1553 [some (.ref 9999), some (.ref 0), some (.ref 1000), some (.int (nI i))] [] M2) : LW Ln xs 1483 [some (.ref 9999), some (.ref 0), some (.ref 1000), some (.int (nI i))] [] M := by
  refine lq_aload_n d_L_1483 rfl ?_
  refine lq_aload_n d_L_1484 rfl ?_
  refine lq_iload_n d_L_1485 rfl ?_
  refine lq_iconst (v := 1) d_L_1486 (by decide) ?_
  refine lq_iadd d_L_1487 ?_
  refine lq_sld d_L_1488 (sc_in (j := 1) rfl (by omega) hL) ?_
  refine lq_aload_n d_L_1489 rfl ?_
  refine lq_iload_n d_L_1490 rfl ?_
  refine lq_iconst (v := 2) d_L_1491 (by decide) ?_
  refine lq_iadd d_L_1492 ?_
  refine lq_sld d_L_1493 (sc_in (j := 2) rfl (by omega) hL) ?_
  refine lq_virtI (c_write hC hI) rfl ml_L_153 so_C rfl rfl d_L_1494 (fun r1 M1 q1 => ?_)
  obtain ⟨e1, w1, k1⟩ := q1
  subst e1
  have hM1 := hM.kept k1
  refine lq_aload_n d_L_1497 rfl ?_
  refine lq_aload_n d_L_1498 rfl ?_
  refine lq_iload_n d_L_1499 rfl ?_
  refine lq_iconst (v := 1) d_L_1500 (by decide) ?_
  refine lq_iadd d_L_1501 ?_
  refine lq_sld d_L_1502 (sc_in (j := 1) rfl (by omega) hL) ?_
  refine lq_aload_n d_L_1503 rfl ?_
  refine lq_iload_n d_L_1504 rfl ?_
  refine lq_iconst (v := 2) d_L_1505 (by decide) ?_
  refine lq_iadd d_L_1506 ?_
  refine lq_sld d_L_1507 (sc_in (j := 2) rfl (by omega) hL) ?_
  refine lq_virtI (m_write hM1 hI) rfl ml_L_156 so_M rfl rfl d_L_1508 (fun r2 M2 q2 => ?_)
  obtain ⟨e2, w2, k2⟩ := q2
  subst e2
  refine lq_icmp_eq 1553 d_L_1511 (by decide) (fun _ => K _ _ (RC.kept (iv_write hI).2.1 (iv_write hI).2.2.1 w1 k2) w2 (iv_write hI)) (fun h => absurd rfl h)
set_option maxRecDepth 100000 in
theorem lc_34 {Ln i : Nat} {xs : Nat → Int32} {M : Mem} {σ : Sg} (hL : Ln ≤ 3072) (hi : i + 6 ≤ Ln) (hC : RC M σ) (hM : RM M σ) (hI : Iv σ) (K : ∀ M2 σ2, RC M2 σ2 → RM M2 σ2 → Iv σ2 → LW Ln xs 1553 [some (.ref 9999), some (.ref 0), some (.ref 1000), some (.int (nI i))] [] M2) : LW Ln xs 1516 [some (.ref 9999), some (.ref 0), some (.ref 1000), some (.int (nI i))] [] M := by
  refine lq_aload_n d_L_1516 rfl ?_
  refine lq_aload_n d_L_1517 rfl ?_
  refine lq_iload_n d_L_1518 rfl ?_
  refine lq_iconst (v := 1) d_L_1519 (by decide) ?_
  refine lq_iadd d_L_1520 ?_
  refine lq_sld d_L_1521 (sc_in (j := 1) rfl (by omega) hL) ?_
  refine lq_virtI (c_count hC hI) rfl ml_L_157 so_C rfl rfl d_L_1522 (fun r1 M1 q1 => ?_)
  obtain ⟨e1, w1, k1⟩ := q1
  subst e1
  have hM1 := hM.kept k1
  refine lq_aload_n d_L_1525 rfl ?_
  refine lq_aload_n d_L_1526 rfl ?_
  refine lq_iload_n d_L_1527 rfl ?_
  refine lq_iconst (v := 1) d_L_1528 (by decide) ?_
  refine lq_iadd d_L_1529 ?_
  refine lq_sld d_L_1530 (sc_in (j := 1) rfl (by omega) hL) ?_
  refine lq_virtI (m_count hM1 hI) rfl ml_L_160 so_M rfl rfl d_L_1531 (fun r2 M2 q2 => ?_)
  obtain ⟨e2, w2, k2⟩ := q2
  subst e2
  refine lq_icmp_eq 1553 d_L_1534 (by decide) (fun _ => K _ _ (RC.kept hI.2.1 hI.2.2.1 w1 k2) w2 hI) (fun h => absurd rfl h)
set_option maxRecDepth 100000 in
theorem lc_35 {Ln i : Nat} {xs : Nat → Int32} {M : Mem} {σ : Sg} (hL : Ln ≤ 3072) (hi : i + 6 ≤ Ln) (hC : RC M σ) (hM : RM M σ) (hI : Iv σ) (K : ∀ M2 σ2, RC M2 σ2 → RM M2 σ2 → Iv σ2 → LW Ln xs 1553 [some (.ref 9999), some (.ref 0), some (.ref 1000), some (.int (nI i))] [] M2) : LW Ln xs 1539 [some (.ref 9999), some (.ref 0), some (.ref 1000), some (.int (nI i))] [] M := by
  refine lq_aload_n d_L_1539 rfl ?_
  refine lq_virtJ (c_digest hC hI) rfl ml_L_161 so_C rfl rfl d_L_1540 (fun r1 M1 q1 => ?_)
  obtain ⟨e1, w1, k1⟩ := q1
  subst e1
  have hM1 := hM.kept k1
  refine lq_aload_n d_L_1543 rfl ?_
  refine lq_virtJ (m_digest hM1 hI) rfl ml_L_165 so_M rfl rfl d_L_1544 (fun r2 M2 q2 => ?_)
  obtain ⟨e2, w2, k2⟩ := q2
  subst e2
  refine lq_lcmp d_L_1547 ?_
  refine lq_if_eq 1553 d_L_1548 (by decide) (fun _ => K _ _ (RC.kept hI.2.1 hI.2.2.1 w1 k2) w2 hI) (fun h => absurd (lgc_eq.mpr rfl) h)
set_option maxRecDepth 100000 in
theorem law_loop {Ln : Nat} {xs : Nat → Int32} (hL : Ln ≤ 3072) : ∀ (n i : Nat) (M : Mem) (σ : Sg), Ln - i ≤ n → i ≤ 4000 → RC M σ → RM M σ → Iv σ → LW Ln xs 18 [some (.ref 9999), some (.ref 0), some (.ref 1000), some (.int (nI i))] [] M := by
  intro n
  induction n using Nat.strongRecOn with
  | _ n ih =>
  intro i M σ hn h4 hC hM hI
  refine lq_iload_n d_L_18 rfl ?_
  refine lq_aload_n d_L_19 rfl ?_
  refine lq_slen d_L_20 ?_
  refine lq_bipush (v := 6) d_L_21 (by decide) ?_
  refine lq_isub d_L_23 ?_
  refine lq_icmp_gt 1559 d_L_24 (by decide) (fun _ => ?_) (fun c_24 => ?_)
  · refine lq_iconst (v := 1) d_L_1559 (by decide) ?_
    exact lq_ret d_L_1560
  · have hi := (law_le hL h4).mp c_24
    have K : ∀ M2 σ2, RC M2 σ2 → RM M2 σ2 → Iv σ2 → LW Ln xs 1553 [some (.ref 9999), some (.ref 0), some (.ref 1000), some (.int (nI i))] [] M2 := fun M2 σ2 h1 h2 h3 => by
      refine lq_iinc d_L_1553 rfl rfl ?_
      refine lq_goto 18 d_L_1556 (by decide) ?_
      refine LW.cast (L' := [some (.ref 9999), some (.ref 0), some (.ref 1000), some (.int (nI (i + 6)))]) ?_ (ih (n - 6) (by omega) (i + 6) M2 σ2 (by omega) (by omega) h1 h2 h3)
      simp only [lset1, kl]
      rw [← nI_add]
      rfl
    refine lq_aload_n d_L_27 rfl ?_
    refine lq_iload_n d_L_28 rfl ?_
    refine lq_sld d_L_29 (vp_in_nI (by omega) (by omega)) ?_
    refine lq_bipush (v := 63) d_L_30 (by decide) ?_
    refine lq_iand d_L_32 ?_
    obtain ⟨k, hk, ek⟩ := and63 (xs (nI i).toNatClampNeg)
    rw [ek]
    by_cases h36 : k < 36
    · rcases (show k = 0 ∨ k = 1 ∨ k = 2 ∨ k = 3 ∨ k = 4 ∨ k = 5 ∨ k = 6 ∨ k = 7 ∨ k = 8 ∨ k = 9 ∨ k = 10 ∨ k = 11 ∨ k = 12 ∨ k = 13 ∨ k = 14 ∨ k = 15 ∨ k = 16 ∨ k = 17 ∨ k = 18 ∨ k = 19 ∨ k = 20 ∨ k = 21 ∨ k = 22 ∨ k = 23 ∨ k = 24 ∨ k = 25 ∨ k = 26 ∨ k = 27 ∨ k = 28 ∨ k = 29 ∨ k = 30 ∨ k = 31 ∨ k = 32 ∨ k = 33 ∨ k = 34 ∨ k = 35 by omega) with rfl | rfl | rfl | rfl | rfl | rfl | rfl | rfl | rfl | rfl | rfl | rfl | rfl | rfl | rfl | rfl | rfl | rfl | rfl | rfl | rfl | rfl | rfl | rfl | rfl | rfl | rfl | rfl | rfl | rfl | rfl | rfl | rfl | rfl | rfl | rfl
      · exact lq_swIn 192 d_L_33 (by decide) (by decide) rfl (by decide) (lc_0 hL hi hC hM hI K)
      · exact lq_swIn 205 d_L_33 (by decide) (by decide) rfl (by decide) (lc_1 hL hi hC hM hI K)
      · exact lq_swIn 248 d_L_33 (by decide) (by decide) rfl (by decide) (lc_2 hL hi hC hM hI K)
      · exact lq_swIn 281 d_L_33 (by decide) (by decide) rfl (by decide) (lc_3 hL hi hC hM hI K)
      · exact lq_swIn 314 d_L_33 (by decide) (by decide) rfl (by decide) (lc_4 hL hi hC hM hI K)
      · exact lq_swIn 347 d_L_33 (by decide) (by decide) rfl (by decide) (lc_5 hL hi hC hM hI K)
      · exact lq_swIn 370 d_L_33 (by decide) (by decide) rfl (by decide) (lc_6 hL hi hC hM hI K)
      · exact lq_swIn 393 d_L_33 (by decide) (by decide) rfl (by decide) (lc_7 hL hi hC hM hI K)
      · exact lq_swIn 426 d_L_33 (by decide) (by decide) rfl (by decide) (lc_8 hL hi hC hM hI K)
      · exact lq_swIn 479 d_L_33 (by decide) (by decide) rfl (by decide) (lc_9 hL hi hC hM hI K)
      · exact lq_swIn 512 d_L_33 (by decide) (by decide) rfl (by decide) (lc_10 hL hi hC hM hI K)
      · exact lq_swIn 565 d_L_33 (by decide) (by decide) rfl (by decide) (lc_11 hL hi hC hM hI K)
      · exact lq_swIn 608 d_L_33 (by decide) (by decide) rfl (by decide) (lc_12 hL hi hC hM hI K)
      · exact lq_swIn 641 d_L_33 (by decide) (by decide) rfl (by decide) (lc_13 hL hi hC hM hI K)
      · exact lq_swIn 674 d_L_33 (by decide) (by decide) rfl (by decide) (lc_14 hL hi hC hM hI K)
      · exact lq_swIn 707 d_L_33 (by decide) (by decide) rfl (by decide) (lc_15 hL hi hC hM hI K)
      · exact lq_swIn 740 d_L_33 (by decide) (by decide) rfl (by decide) (lc_16 hL hi hC hM hI K)
      · exact lq_swIn 783 d_L_33 (by decide) (by decide) rfl (by decide) (lc_17 hL hi hC hM hI K)
      · exact lq_swIn 816 d_L_33 (by decide) (by decide) rfl (by decide) (lc_18 hL hi hC hM hI K)
      · exact lq_swIn 870 d_L_33 (by decide) (by decide) rfl (by decide) (lc_19 hL hi hC hM hI K)
      · exact lq_swIn 913 d_L_33 (by decide) (by decide) rfl (by decide) (lc_20 hL hi hC hM hI K)
      · exact lq_swIn 966 d_L_33 (by decide) (by decide) rfl (by decide) (lc_21 hL hi hC hM hI K)
      · exact lq_swIn 1019 d_L_33 (by decide) (by decide) rfl (by decide) (lc_22 hL hi hC hM hI K)
      · exact lq_swIn 1072 d_L_33 (by decide) (by decide) rfl (by decide) (lc_23 hL hi hC hM hI K)
      · exact lq_swIn 1116 d_L_33 (by decide) (by decide) rfl (by decide) (lc_24 hL hi hC hM hI K)
      · exact lq_swIn 1159 d_L_33 (by decide) (by decide) rfl (by decide) (lc_25 hL hi hC hM hI K)
      · exact lq_swIn 1192 d_L_33 (by decide) (by decide) rfl (by decide) (lc_26 hL hi hC hM hI K)
      · exact lq_swIn 1235 d_L_33 (by decide) (by decide) rfl (by decide) (lc_27 hL hi hC hM hI K)
      · exact lq_swIn 1258 d_L_33 (by decide) (by decide) rfl (by decide) (lc_28 hL hi hC hM hI K)
      · exact lq_swIn 1301 d_L_33 (by decide) (by decide) rfl (by decide) (lc_29 hL hi hC hM hI K)
      · exact lq_swIn 1324 d_L_33 (by decide) (by decide) rfl (by decide) (lc_30 hL hi hC hM hI K)
      · exact lq_swIn 1377 d_L_33 (by decide) (by decide) rfl (by decide) (lc_31 hL hi hC hM hI K)
      · exact lq_swIn 1420 d_L_33 (by decide) (by decide) rfl (by decide) (lc_32 hL hi hC hM hI K)
      · exact lq_swIn 1483 d_L_33 (by decide) (by decide) rfl (by decide) (lc_33 hL hi hC hM hI K)
      · exact lq_swIn 1516 d_L_33 (by decide) (by decide) rfl (by decide) (lc_34 hL hi hC hM hI K)
      · exact lq_swIn 1539 d_L_33 (by decide) (by decide) rfl (by decide) (lc_35 hL hi hC hM hI K)
    · exact lq_swOut 1553 d_L_33 (Or.inr (by rw [nI_toInt (by omega)]; omega)) (by decide) (K M σ hC hM hI)

/-! ===== the law, call by call ===== -/
set_option maxHeartbeats 4000000 in
set_option maxRecDepth 100000 in
theorem lc_row (nm : String) (L : Nat) (xs : Nat → Int) (d nf n : Nat) (hd : 8 ≤ d) (Q : pQt) (i : Int) (hi : 0 ≤ i ∧ i + 7 ≤ L) (ok : pO) (mem : pM) (hV : INV n ok mem) (hnf : n ≤ nf) (a1 a2 a3 : Int) (h1 : mX (miL nm L xs) (i + 1).toNat = a1) (r1 : -2147483648 ≤ a1 ∧ a1 ≤ 2147483647) (h2 : mX (miL nm L xs) (i + 2).toNat = a2) (r2 : -2147483648 ≤ a2 ∧ a2 ≤ 2147483647) (h3 : mX (miL nm L xs) (i + 3).toNat = a3) (r3 : -2147483648 ≤ a3 ∧ a3 ≤ 2147483647) (KK : ∀ ok' mem', INV n ok' mem' → PW (miL nm L xs) d nf 0 Q 1800 [(0, vr 1003), (1, vr 1), (2, vr 88), (3, vi i)] [] n ok' mem') : PW (miL nm L xs) d nf 0 Q 252 [(0, vr 1003), (1, vr 1), (2, vr 88), (3, vi i)] [] n ok mem := by
  obtain ⟨hU, hRU, hG, hRI⟩ := hV
  have hP9 := hU.1
  have hR9 := hRU.1
  have hn133 := hU.2.2.2.2.2.2.2.2.2.2
  have hn4 := hU.2.2.1.1
  have hn88 := hRU.1.1.2.1
  refine pw_aload_n 1 rfl dL_law_252 rfl ?_
  refine pw_aload_n 0 rfl dL_law_253 rfl ?_
  refine pw_iload_n 3 rfl dL_law_254 rfl ?_
  refine pw_iconst dL_law_255 ?_
  refine pw_iadd dL_law_256 ?_
  refine pw_sld rfl dL_law_257 (by omega) (show i + 1 < ((L : Nat) : Int) by omega) ?_
  rw [h1]
  refine pw_aload_n 0 rfl dL_law_258 rfl ?_
  refine pw_iload_n 3 rfl dL_law_259 rfl ?_
  refine pw_iconst dL_law_260 ?_
  refine pw_iadd dL_law_261 ?_
  refine pw_sld rfl dL_law_262 (by omega) (show i + 2 < ((L : Nat) : Int) by omega) ?_
  rw [h2]
  refine pw_aload_n 0 rfl dL_law_263 rfl ?_
  refine pw_iload_n 3 rfl dL_law_264 rfl ?_
  refine pw_iconst dL_law_265 ?_
  refine pw_iadd dL_law_266 ?_
  refine pw_sld rfl dL_law_267 (by omega) (show i + 3 < ((L : Nat) : Int) by omega) ?_
  rw [h3]
  refine pw_callV (d' := d - 1) (As := [_, _, _]) (ci := 9) dL_law_268 ok_X9_row kw_399 rfl rfl (Of.o (by assumption)) (by omega) rfl (Nat.le_of_ble_eq_true rfl) (p_row (d - 1) (by omega) n ok mem hU hG hRI a1 a2 a3 r1 r2 r3) hnf (Or.inl rfl) (fun r ok1 mem1 hq => ?_)
  obtain ⟨rfl, rfl, hRE, hG1⟩ := hq
  have hov := ov_id hRE
  have hRI1 := RI_re hRI hRE
  refine pw_aload_n 2 rfl dL_law_271 rfl ?_
  refine pw_aload_n 0 rfl dL_law_272 rfl ?_
  refine pw_iload_n 3 rfl dL_law_273 rfl ?_
  refine pw_iconst dL_law_274 ?_
  refine pw_iadd dL_law_275 ?_
  refine pw_sld rfl dL_law_276 (by omega) (show i + 1 < ((L : Nat) : Int) by omega) ?_
  rw [h1]
  refine pw_aload_n 0 rfl dL_law_277 rfl ?_
  refine pw_iload_n 3 rfl dL_law_278 rfl ?_
  refine pw_iconst dL_law_279 ?_
  refine pw_iadd dL_law_280 ?_
  refine pw_sld rfl dL_law_281 (by omega) (show i + 2 < ((L : Nat) : Int) by omega) ?_
  rw [h2]
  refine pw_aload_n 0 rfl dL_law_282 rfl ?_
  refine pw_iload_n 3 rfl dL_law_283 rfl ?_
  refine pw_iconst dL_law_284 ?_
  refine pw_iadd dL_law_285 ?_
  refine pw_sld rfl dL_law_286 (by omega) (show i + 3 < ((L : Nat) : Int) by omega) ?_
  rw [h3]
  refine pw_callV (d' := d - 1) (As := [_, _, _]) (ci := 10) dL_law_287 ok_X10_row kw_1237 rfl rfl (Of.o (by assumption)) (by omega) rfl (Nat.le_of_ble_eq_true rfl) (r_row (d - 1) (by omega) n ok mem1 hRU a1 a2 a3 r1 r2 r3) hnf (Or.inl rfl) (fun r ok2 mem2 hq => ?_)
  obtain ⟨rfl, rfl, rfl⟩ := hq
  have hF : rRow mem1 a1 a2 a3 = pOv (rRow mem a1 a2 a3) mem1 := by
    have h9 := rRow_ov mem mem1 a1 a2 a3
    rw [hov] at h9; exact h9
  rw [hF]
  exact pw_eqx 1800 (by decide) dL_law_290 (KK ok _ (INV_ov hU hRU hG1 (RI_row hRI a1 a2 a3)))
set_option maxHeartbeats 4000000 in
set_option maxRecDepth 100000 in
theorem lc_part (nm : String) (L : Nat) (xs : Nat → Int) (d nf n : Nat) (hd : 8 ≤ d) (Q : pQt) (i : Int) (hi : 0 ≤ i ∧ i + 7 ≤ L) (ok : pO) (mem : pM) (hV : INV n ok mem) (hnf : n ≤ nf) (a1 a2 a3 a4 a5 : Int) (h1 : mX (miL nm L xs) (i + 1).toNat = a1) (r1 : -2147483648 ≤ a1 ∧ a1 ≤ 2147483647) (h2 : mX (miL nm L xs) (i + 2).toNat = a2) (r2 : -2147483648 ≤ a2 ∧ a2 ≤ 2147483647) (h3 : mX (miL nm L xs) (i + 3).toNat = a3) (r3 : -2147483648 ≤ a3 ∧ a3 ≤ 2147483647) (h4 : mX (miL nm L xs) (i + 4).toNat = a4) (r4 : -2147483648 ≤ a4 ∧ a4 ≤ 2147483647) (h5 : mX (miL nm L xs) (i + 5).toNat = a5) (r5 : -2147483648 ≤ a5 ∧ a5 ≤ 2147483647) (KK : ∀ ok' mem', INV n ok' mem' → PW (miL nm L xs) d nf 0 Q 1800 [(0, vr 1003), (1, vr 1), (2, vr 88), (3, vi i)] [] n ok' mem') : PW (miL nm L xs) d nf 0 Q 295 [(0, vr 1003), (1, vr 1), (2, vr 88), (3, vi i)] [] n ok mem := by
  obtain ⟨hU, hRU, hG, hRI⟩ := hV
  have hP9 := hU.1
  have hR9 := hRU.1
  have hn133 := hU.2.2.2.2.2.2.2.2.2.2
  have hn4 := hU.2.2.1.1
  have hn88 := hRU.1.1.2.1
  refine pw_aload_n 1 rfl dL_law_295 rfl ?_
  refine pw_aload_n 0 rfl dL_law_296 rfl ?_
  refine pw_iload_n 3 rfl dL_law_297 rfl ?_
  refine pw_iconst dL_law_298 ?_
  refine pw_iadd dL_law_299 ?_
  refine pw_sld rfl dL_law_300 (by omega) (show i + 1 < ((L : Nat) : Int) by omega) ?_
  rw [h1]
  refine pw_aload_n 0 rfl dL_law_301 rfl ?_
  refine pw_iload_n 3 rfl dL_law_302 rfl ?_
  refine pw_iconst dL_law_303 ?_
  refine pw_iadd dL_law_304 ?_
  refine pw_sld rfl dL_law_305 (by omega) (show i + 2 < ((L : Nat) : Int) by omega) ?_
  rw [h2]
  refine pw_aload_n 0 rfl dL_law_306 rfl ?_
  refine pw_iload_n 3 rfl dL_law_307 rfl ?_
  refine pw_iconst dL_law_308 ?_
  refine pw_iadd dL_law_309 ?_
  refine pw_sld rfl dL_law_310 (by omega) (show i + 3 < ((L : Nat) : Int) by omega) ?_
  rw [h3]
  refine pw_aload_n 0 rfl dL_law_311 rfl ?_
  refine pw_iload_n 3 rfl dL_law_312 rfl ?_
  refine pw_iconst dL_law_313 ?_
  refine pw_iadd dL_law_314 ?_
  refine pw_sld rfl dL_law_315 (by omega) (show i + 4 < ((L : Nat) : Int) by omega) ?_
  rw [h4]
  refine pw_aload_n 0 rfl dL_law_316 rfl ?_
  refine pw_iload_n 3 rfl dL_law_317 rfl ?_
  refine pw_iconst dL_law_318 ?_
  refine pw_iadd dL_law_319 ?_
  refine pw_sld rfl dL_law_320 (by omega) (show i + 5 < ((L : Nat) : Int) by omega) ?_
  rw [h5]
  refine pw_callV (d' := d - 1) (As := [_, _, _, _, _]) (ci := 9) dL_law_321 ok_X9_part kw_427 rfl rfl (Of.o (by assumption)) (by omega) rfl (Nat.le_of_ble_eq_true rfl) (p_part (d - 1) (by omega) n ok mem hU hG hRI a1 a2 a3 a4 a5 r1 r2 r3 r4 r5) hnf (Or.inl rfl) (fun r ok1 mem1 hq => ?_)
  obtain ⟨rfl, rfl, hRE, hG1⟩ := hq
  have hov := ov_id hRE
  have hRI1 := RI_re hRI hRE
  refine pw_aload_n 2 rfl dL_law_324 rfl ?_
  refine pw_aload_n 0 rfl dL_law_325 rfl ?_
  refine pw_iload_n 3 rfl dL_law_326 rfl ?_
  refine pw_iconst dL_law_327 ?_
  refine pw_iadd dL_law_328 ?_
  refine pw_sld rfl dL_law_329 (by omega) (show i + 1 < ((L : Nat) : Int) by omega) ?_
  rw [h1]
  refine pw_aload_n 0 rfl dL_law_330 rfl ?_
  refine pw_iload_n 3 rfl dL_law_331 rfl ?_
  refine pw_iconst dL_law_332 ?_
  refine pw_iadd dL_law_333 ?_
  refine pw_sld rfl dL_law_334 (by omega) (show i + 2 < ((L : Nat) : Int) by omega) ?_
  rw [h2]
  refine pw_aload_n 0 rfl dL_law_335 rfl ?_
  refine pw_iload_n 3 rfl dL_law_336 rfl ?_
  refine pw_iconst dL_law_337 ?_
  refine pw_iadd dL_law_338 ?_
  refine pw_sld rfl dL_law_339 (by omega) (show i + 3 < ((L : Nat) : Int) by omega) ?_
  rw [h3]
  refine pw_aload_n 0 rfl dL_law_340 rfl ?_
  refine pw_iload_n 3 rfl dL_law_341 rfl ?_
  refine pw_iconst dL_law_342 ?_
  refine pw_iadd dL_law_343 ?_
  refine pw_sld rfl dL_law_344 (by omega) (show i + 4 < ((L : Nat) : Int) by omega) ?_
  rw [h4]
  refine pw_aload_n 0 rfl dL_law_345 rfl ?_
  refine pw_iload_n 3 rfl dL_law_346 rfl ?_
  refine pw_iconst dL_law_347 ?_
  refine pw_iadd dL_law_348 ?_
  refine pw_sld rfl dL_law_349 (by omega) (show i + 5 < ((L : Nat) : Int) by omega) ?_
  rw [h5]
  refine pw_callV (d' := d - 1) (As := [_, _, _, _, _]) (ci := 10) dL_law_350 ok_X10_part kw_1269 rfl rfl (Of.o (by assumption)) (by omega) rfl (Nat.le_of_ble_eq_true rfl) (r_part (d - 1) (by omega) n ok mem1 hRU a1 a2 a3 a4 a5 r1 r2 r3 r4 r5 (fun hc => by have := aMul_1024 (hRI1.1 _ hc.1 hc.2) a2; omega)) hnf (Or.inl rfl) (fun r ok2 mem2 hq => ?_)
  obtain ⟨rfl, rfl, rfl⟩ := hq
  have hF : rPart mem1 a1 a2 a3 a4 a5 = pOv (rPart mem a1 a2 a3 a4 a5) mem1 := by
    have h9 := rPart_ov mem mem1 a1 a2 a3 a4 a5
    rw [hov] at h9; exact h9
  rw [hF]
  exact pw_eqx 1800 (by decide) dL_law_353 (KK ok _ (INV_ov hU hRU hG1 (RI_part hRI a1 a2 a3 a4 a5)))
set_option maxHeartbeats 4000000 in
set_option maxRecDepth 100000 in
theorem lc_take (nm : String) (L : Nat) (xs : Nat → Int) (d nf n : Nat) (hd : 8 ≤ d) (Q : pQt) (i : Int) (hi : 0 ≤ i ∧ i + 7 ≤ L) (ok : pO) (mem : pM) (hV : INV n ok mem) (hnf : n ≤ nf) (a1 a2 : Int) (h1 : mX (miL nm L xs) (i + 1).toNat = a1) (r1 : -2147483648 ≤ a1 ∧ a1 ≤ 2147483647) (h2 : mX (miL nm L xs) (i + 2).toNat = a2) (r2 : -2147483648 ≤ a2 ∧ a2 ≤ 2147483647) (KK : ∀ ok' mem', INV n ok' mem' → PW (miL nm L xs) d nf 0 Q 1800 [(0, vr 1003), (1, vr 1), (2, vr 88), (3, vi i)] [] n ok' mem') : PW (miL nm L xs) d nf 0 Q 358 [(0, vr 1003), (1, vr 1), (2, vr 88), (3, vi i)] [] n ok mem := by
  obtain ⟨hU, hRU, hG, hRI⟩ := hV
  have hP9 := hU.1
  have hR9 := hRU.1
  have hn133 := hU.2.2.2.2.2.2.2.2.2.2
  have hn4 := hU.2.2.1.1
  have hn88 := hRU.1.1.2.1
  refine pw_aload_n 1 rfl dL_law_358 rfl ?_
  refine pw_aload_n 0 rfl dL_law_359 rfl ?_
  refine pw_iload_n 3 rfl dL_law_360 rfl ?_
  refine pw_iconst dL_law_361 ?_
  refine pw_iadd dL_law_362 ?_
  refine pw_sld rfl dL_law_363 (by omega) (show i + 1 < ((L : Nat) : Int) by omega) ?_
  rw [h1]
  refine pw_aload_n 0 rfl dL_law_364 rfl ?_
  refine pw_iload_n 3 rfl dL_law_365 rfl ?_
  refine pw_iconst dL_law_366 ?_
  refine pw_iadd dL_law_367 ?_
  refine pw_sld rfl dL_law_368 (by omega) (show i + 2 < ((L : Nat) : Int) by omega) ?_
  rw [h2]
  refine pw_callV (d' := d - 1) (As := [_, _]) (ci := 9) dL_law_369 ok_X9_take kw_449 rfl rfl (Of.o (by assumption)) (by omega) rfl (Nat.le_of_ble_eq_true rfl) (p_take (d - 1) (by omega) n ok mem hU hG hRI a1 a2 r1 r2) hnf (Or.inl rfl) (fun r ok1 mem1 hq => ?_)
  obtain ⟨rfl, rfl, hRE, hG1⟩ := hq
  have hov := ov_id hRE
  have hRI1 := RI_re hRI hRE
  refine pw_aload_n 2 rfl dL_law_372 rfl ?_
  refine pw_aload_n 0 rfl dL_law_373 rfl ?_
  refine pw_iload_n 3 rfl dL_law_374 rfl ?_
  refine pw_iconst dL_law_375 ?_
  refine pw_iadd dL_law_376 ?_
  refine pw_sld rfl dL_law_377 (by omega) (show i + 1 < ((L : Nat) : Int) by omega) ?_
  rw [h1]
  refine pw_aload_n 0 rfl dL_law_378 rfl ?_
  refine pw_iload_n 3 rfl dL_law_379 rfl ?_
  refine pw_iconst dL_law_380 ?_
  refine pw_iadd dL_law_381 ?_
  refine pw_sld rfl dL_law_382 (by omega) (show i + 2 < ((L : Nat) : Int) by omega) ?_
  rw [h2]
  refine pw_callV (d' := d - 1) (As := [_, _]) (ci := 10) dL_law_383 ok_X10_take kw_1291 rfl rfl (Of.o (by assumption)) (by omega) rfl (Nat.le_of_ble_eq_true rfl) (r_take (d - 1) (by omega) n ok mem1 hRU a1 a2 r1 r2) hnf (Or.inl rfl) (fun r ok2 mem2 hq => ?_)
  obtain ⟨rfl, rfl, rfl⟩ := hq
  have hF : rTake mem1 a1 a2 = pOv (rTake mem a1 a2) mem1 := by
    have h9 := rTake_ov mem mem1 a1 a2
    rw [hov] at h9; exact h9
  rw [hF]
  exact pw_eqx 1800 (by decide) dL_law_386 (KK ok _ (INV_ov hU hRU hG1 (RI_take hRI a1 a2)))
set_option maxHeartbeats 4000000 in
set_option maxRecDepth 100000 in
theorem lc_condition (nm : String) (L : Nat) (xs : Nat → Int) (d nf n : Nat) (hd : 8 ≤ d) (Q : pQt) (i : Int) (hi : 0 ≤ i ∧ i + 7 ≤ L) (ok : pO) (mem : pM) (hV : INV n ok mem) (hnf : n ≤ nf) (a1 a2 a3 a4 : Int) (h1 : mX (miL nm L xs) (i + 1).toNat = a1) (r1 : -2147483648 ≤ a1 ∧ a1 ≤ 2147483647) (h2 : mX (miL nm L xs) (i + 2).toNat = a2) (r2 : -2147483648 ≤ a2 ∧ a2 ≤ 2147483647) (h3 : mX (miL nm L xs) (i + 3).toNat = a3) (r3 : -2147483648 ≤ a3 ∧ a3 ≤ 2147483647) (h4 : mX (miL nm L xs) (i + 4).toNat = a4) (r4 : -2147483648 ≤ a4 ∧ a4 ≤ 2147483647) (KK : ∀ ok' mem', INV n ok' mem' → PW (miL nm L xs) d nf 0 Q 1800 [(0, vr 1003), (1, vr 1), (2, vr 88), (3, vi i)] [] n ok' mem') : PW (miL nm L xs) d nf 0 Q 391 [(0, vr 1003), (1, vr 1), (2, vr 88), (3, vi i)] [] n ok mem := by
  obtain ⟨hU, hRU, hG, hRI⟩ := hV
  have hP9 := hU.1
  have hR9 := hRU.1
  have hn133 := hU.2.2.2.2.2.2.2.2.2.2
  have hn4 := hU.2.2.1.1
  have hn88 := hRU.1.1.2.1
  refine pw_aload_n 1 rfl dL_law_391 rfl ?_
  refine pw_aload_n 0 rfl dL_law_392 rfl ?_
  refine pw_iload_n 3 rfl dL_law_393 rfl ?_
  refine pw_iconst dL_law_394 ?_
  refine pw_iadd dL_law_395 ?_
  refine pw_sld rfl dL_law_396 (by omega) (show i + 1 < ((L : Nat) : Int) by omega) ?_
  rw [h1]
  refine pw_aload_n 0 rfl dL_law_397 rfl ?_
  refine pw_iload_n 3 rfl dL_law_398 rfl ?_
  refine pw_iconst dL_law_399 ?_
  refine pw_iadd dL_law_400 ?_
  refine pw_sld rfl dL_law_401 (by omega) (show i + 2 < ((L : Nat) : Int) by omega) ?_
  rw [h2]
  refine pw_aload_n 0 rfl dL_law_402 rfl ?_
  refine pw_iload_n 3 rfl dL_law_403 rfl ?_
  refine pw_iconst dL_law_404 ?_
  refine pw_iadd dL_law_405 ?_
  refine pw_sld rfl dL_law_406 (by omega) (show i + 3 < ((L : Nat) : Int) by omega) ?_
  rw [h3]
  refine pw_aload_n 0 rfl dL_law_407 rfl ?_
  refine pw_iload_n 3 rfl dL_law_408 rfl ?_
  refine pw_iconst dL_law_409 ?_
  refine pw_iadd dL_law_410 ?_
  refine pw_sld rfl dL_law_411 (by omega) (show i + 4 < ((L : Nat) : Int) by omega) ?_
  rw [h4]
  refine pw_callV (d' := d - 1) (As := [_, _, _, _]) (ci := 9) dL_law_412 ok_X9_condition kw_461 rfl rfl (Of.o (by assumption)) (by omega) rfl (Nat.le_of_ble_eq_true rfl) (p_condition (d - 1) (by omega) n ok mem hU hG hRI a1 a2 a3 a4 r1 r2 r3 r4) hnf (Or.inl rfl) (fun r ok1 mem1 hq => ?_)
  obtain ⟨rfl, rfl, hRE, hG1⟩ := hq
  have hov := ov_id hRE
  have hRI1 := RI_re hRI hRE
  refine pw_aload_n 2 rfl dL_law_415 rfl ?_
  refine pw_aload_n 0 rfl dL_law_416 rfl ?_
  refine pw_iload_n 3 rfl dL_law_417 rfl ?_
  refine pw_iconst dL_law_418 ?_
  refine pw_iadd dL_law_419 ?_
  refine pw_sld rfl dL_law_420 (by omega) (show i + 1 < ((L : Nat) : Int) by omega) ?_
  rw [h1]
  refine pw_aload_n 0 rfl dL_law_421 rfl ?_
  refine pw_iload_n 3 rfl dL_law_422 rfl ?_
  refine pw_iconst dL_law_423 ?_
  refine pw_iadd dL_law_424 ?_
  refine pw_sld rfl dL_law_425 (by omega) (show i + 2 < ((L : Nat) : Int) by omega) ?_
  rw [h2]
  refine pw_aload_n 0 rfl dL_law_426 rfl ?_
  refine pw_iload_n 3 rfl dL_law_427 rfl ?_
  refine pw_iconst dL_law_428 ?_
  refine pw_iadd dL_law_429 ?_
  refine pw_sld rfl dL_law_430 (by omega) (show i + 3 < ((L : Nat) : Int) by omega) ?_
  rw [h3]
  refine pw_aload_n 0 rfl dL_law_431 rfl ?_
  refine pw_iload_n 3 rfl dL_law_432 rfl ?_
  refine pw_iconst dL_law_433 ?_
  refine pw_iadd dL_law_434 ?_
  refine pw_sld rfl dL_law_435 (by omega) (show i + 4 < ((L : Nat) : Int) by omega) ?_
  rw [h4]
  refine pw_callV (d' := d - 1) (As := [_, _, _, _]) (ci := 10) dL_law_436 ok_X10_condition kw_1299 rfl rfl (Of.o (by assumption)) (by omega) rfl (Nat.le_of_ble_eq_true rfl) (r_condition (d - 1) (by omega) n ok mem1 hRU a1 a2 a3 a4 r1 r2 r3 r4 (fun c c1 c2 => (hRI1.1 c c1 c2).2.2.1.1)) hnf (Or.inl rfl) (fun r ok2 mem2 hq => ?_)
  obtain ⟨rfl, rfl, rfl⟩ := hq
  have hF : rCond mem1 a1 a2 a3 a4 = pOv (rCond mem a1 a2 a3 a4) mem1 := by
    have h9 := rCond_ov mem mem1 a1 a2 a3 a4
    rw [hov] at h9; exact h9
  rw [hF]
  exact pw_eqx 1800 (by decide) dL_law_439 (KK ok _ (INV_ov hU hRU hG1 (RI_cond hRI a1 a2 a3 a4)))
set_option maxHeartbeats 4000000 in
set_option maxRecDepth 100000 in
theorem lc_truth (nm : String) (L : Nat) (xs : Nat → Int) (d nf n : Nat) (hd : 8 ≤ d) (Q : pQt) (i : Int) (hi : 0 ≤ i ∧ i + 7 ≤ L) (ok : pO) (mem : pM) (hV : INV n ok mem) (hnf : n ≤ nf) (a1 a2 a3 a4 : Int) (h1 : mX (miL nm L xs) (i + 1).toNat = a1) (r1 : -2147483648 ≤ a1 ∧ a1 ≤ 2147483647) (h2 : mX (miL nm L xs) (i + 2).toNat = a2) (r2 : -2147483648 ≤ a2 ∧ a2 ≤ 2147483647) (h3 : mX (miL nm L xs) (i + 3).toNat = a3) (r3 : -2147483648 ≤ a3 ∧ a3 ≤ 2147483647) (h4 : mX (miL nm L xs) (i + 4).toNat = a4) (r4 : -2147483648 ≤ a4 ∧ a4 ≤ 2147483647) (KK : ∀ ok' mem', INV n ok' mem' → PW (miL nm L xs) d nf 0 Q 1800 [(0, vr 1003), (1, vr 1), (2, vr 88), (3, vi i)] [] n ok' mem') : PW (miL nm L xs) d nf 0 Q 444 [(0, vr 1003), (1, vr 1), (2, vr 88), (3, vi i)] [] n ok mem := by
  obtain ⟨hU, hRU, hG, hRI⟩ := hV
  have hP9 := hU.1
  have hR9 := hRU.1
  have hn133 := hU.2.2.2.2.2.2.2.2.2.2
  have hn4 := hU.2.2.1.1
  have hn88 := hRU.1.1.2.1
  obtain ⟨v9, hv9⟩ : ∃ v9 : Int, v9 = if a4 = 0 then 0 else 1 := ⟨_, rfl⟩
  have hv01 : v9 = 0 ∨ v9 = 1 := by rw [hv9]; split <;> omega
  have rv9 : -2147483648 ≤ v9 ∧ v9 ≤ 2147483647 := by omega
  refine pw_aload_n 1 rfl dL_law_444 rfl ?_
  refine pw_aload_n 0 rfl dL_law_445 rfl ?_
  refine pw_iload_n 3 rfl dL_law_446 rfl ?_
  refine pw_iconst dL_law_447 ?_
  refine pw_iadd dL_law_448 ?_
  refine pw_sld rfl dL_law_449 (by omega) (show i + 1 < ((L : Nat) : Int) by omega) ?_
  rw [h1]
  refine pw_aload_n 0 rfl dL_law_450 rfl ?_
  refine pw_iload_n 3 rfl dL_law_451 rfl ?_
  refine pw_iconst dL_law_452 ?_
  refine pw_iadd dL_law_453 ?_
  refine pw_sld rfl dL_law_454 (by omega) (show i + 2 < ((L : Nat) : Int) by omega) ?_
  rw [h2]
  refine pw_aload_n 0 rfl dL_law_455 rfl ?_
  refine pw_iload_n 3 rfl dL_law_456 rfl ?_
  refine pw_iconst dL_law_457 ?_
  refine pw_iadd dL_law_458 ?_
  refine pw_sld rfl dL_law_459 (by omega) (show i + 3 < ((L : Nat) : Int) by omega) ?_
  rw [h3]
  refine pw_aload_n 0 rfl dL_law_460 rfl ?_
  refine pw_iload_n 3 rfl dL_law_461 rfl ?_
  refine pw_iconst dL_law_462 ?_
  refine pw_iadd dL_law_463 ?_
  refine pw_sld rfl dL_law_464 (by omega) (show i + 4 < ((L : Nat) : Int) by omega) ?_
  rw [h4]
  refine pw_if_eq 472 (by decide) dL_law_465 (by omega) (fun c465 => ?_) (fun c465 => ?_)
  · skip
    obtain rfl : v9 = 0 := by rw [hv9, if_pos c465]
    refine pw_iconst dL_law_472 ?_
    refine pw_callV (d' := d - 1) (As := [_, _, _, _]) (ci := 9) dL_law_473 ok_X9_truth kw_473 rfl rfl (Of.o (by assumption)) (by omega) rfl (Nat.le_of_ble_eq_true rfl) (p_truth (d - 1) (by omega) n ok mem hU hG hRI a1 a2 a3 0 r1 r2 r3 rv9 hv01) hnf (Or.inl rfl) (fun r ok1 mem1 hq => ?_)
    obtain ⟨rfl, rfl, hRE, hG1⟩ := hq
    have hov := ov_id hRE
    have hRI1 := RI_re hRI hRE
    refine pw_aload_n 2 rfl dL_law_476 rfl ?_
    refine pw_aload_n 0 rfl dL_law_477 rfl ?_
    refine pw_iload_n 3 rfl dL_law_478 rfl ?_
    refine pw_iconst dL_law_479 ?_
    refine pw_iadd dL_law_480 ?_
    refine pw_sld rfl dL_law_481 (by omega) (show i + 1 < ((L : Nat) : Int) by omega) ?_
    rw [h1]
    refine pw_aload_n 0 rfl dL_law_482 rfl ?_
    refine pw_iload_n 3 rfl dL_law_483 rfl ?_
    refine pw_iconst dL_law_484 ?_
    refine pw_iadd dL_law_485 ?_
    refine pw_sld rfl dL_law_486 (by omega) (show i + 2 < ((L : Nat) : Int) by omega) ?_
    rw [h2]
    refine pw_aload_n 0 rfl dL_law_487 rfl ?_
    refine pw_iload_n 3 rfl dL_law_488 rfl ?_
    refine pw_iconst dL_law_489 ?_
    refine pw_iadd dL_law_490 ?_
    refine pw_sld rfl dL_law_491 (by omega) (show i + 3 < ((L : Nat) : Int) by omega) ?_
    rw [h3]
    refine pw_aload_n 0 rfl dL_law_492 rfl ?_
    refine pw_iload_n 3 rfl dL_law_493 rfl ?_
    refine pw_iconst dL_law_494 ?_
    refine pw_iadd dL_law_495 ?_
    refine pw_sld rfl dL_law_496 (by omega) (show i + 4 < ((L : Nat) : Int) by omega) ?_
    rw [h4]
    refine pw_if_eq 504 (by decide) dL_law_497 (by omega) (fun c497 => ?_) (fun c497 => ?_)
    · skip
      refine pw_iconst dL_law_504 ?_
      refine pw_callV (d' := d - 1) (As := [_, _, _, _]) (ci := 10) dL_law_505 ok_X10_truth kw_1308 rfl rfl (Of.o (by assumption)) (by omega) rfl (Nat.le_of_ble_eq_true rfl) (r_truth (d - 1) (by omega) n ok mem1 hRU a1 a2 a3 0 r1 r2 r3 rv9 (fun c c1 c2 => (hRI1.1 c c1 c2).2.2.1.1) (fun c k c1 c2 k1 k2 => ((hRI1.1 c c1 c2).2.2.1.2 k k1 k2).2.2.1)) hnf (Or.inl rfl) (fun r ok2 mem2 hq => ?_)
      obtain ⟨rfl, rfl, rfl⟩ := hq
      have hF : rTruth mem1 a1 a2 a3 0 = pOv (rTruth mem a1 a2 a3 0) mem1 := by
        have h9 := rTruth_ov mem mem1 a1 a2 a3 0
        rw [hov] at h9; exact h9
      rw [hF]
      exact pw_eqx 1800 (by decide) dL_law_508 (KK ok _ (INV_ov hU hRU hG1 (RI_truth hRI a1 a2 a3 0)))
    · skip
      exact absurd c465 c497
  · skip
    obtain rfl : v9 = 1 := by rw [hv9, if_neg c465]
    refine pw_iconst dL_law_468 ?_
    refine pw_goto 473 (by decide) dL_law_469 ?_
    refine pw_callV (d' := d - 1) (As := [_, _, _, _]) (ci := 9) dL_law_473 ok_X9_truth kw_473 rfl rfl (Of.o (by assumption)) (by omega) rfl (Nat.le_of_ble_eq_true rfl) (p_truth (d - 1) (by omega) n ok mem hU hG hRI a1 a2 a3 1 r1 r2 r3 rv9 hv01) hnf (Or.inl rfl) (fun r ok1 mem1 hq => ?_)
    obtain ⟨rfl, rfl, hRE, hG1⟩ := hq
    have hov := ov_id hRE
    have hRI1 := RI_re hRI hRE
    refine pw_aload_n 2 rfl dL_law_476 rfl ?_
    refine pw_aload_n 0 rfl dL_law_477 rfl ?_
    refine pw_iload_n 3 rfl dL_law_478 rfl ?_
    refine pw_iconst dL_law_479 ?_
    refine pw_iadd dL_law_480 ?_
    refine pw_sld rfl dL_law_481 (by omega) (show i + 1 < ((L : Nat) : Int) by omega) ?_
    rw [h1]
    refine pw_aload_n 0 rfl dL_law_482 rfl ?_
    refine pw_iload_n 3 rfl dL_law_483 rfl ?_
    refine pw_iconst dL_law_484 ?_
    refine pw_iadd dL_law_485 ?_
    refine pw_sld rfl dL_law_486 (by omega) (show i + 2 < ((L : Nat) : Int) by omega) ?_
    rw [h2]
    refine pw_aload_n 0 rfl dL_law_487 rfl ?_
    refine pw_iload_n 3 rfl dL_law_488 rfl ?_
    refine pw_iconst dL_law_489 ?_
    refine pw_iadd dL_law_490 ?_
    refine pw_sld rfl dL_law_491 (by omega) (show i + 3 < ((L : Nat) : Int) by omega) ?_
    rw [h3]
    refine pw_aload_n 0 rfl dL_law_492 rfl ?_
    refine pw_iload_n 3 rfl dL_law_493 rfl ?_
    refine pw_iconst dL_law_494 ?_
    refine pw_iadd dL_law_495 ?_
    refine pw_sld rfl dL_law_496 (by omega) (show i + 4 < ((L : Nat) : Int) by omega) ?_
    rw [h4]
    refine pw_if_eq 504 (by decide) dL_law_497 (by omega) (fun c497 => ?_) (fun c497 => ?_)
    · skip
      exact absurd c497 c465
    · skip
      refine pw_iconst dL_law_500 ?_
      refine pw_goto 505 (by decide) dL_law_501 ?_
      refine pw_callV (d' := d - 1) (As := [_, _, _, _]) (ci := 10) dL_law_505 ok_X10_truth kw_1308 rfl rfl (Of.o (by assumption)) (by omega) rfl (Nat.le_of_ble_eq_true rfl) (r_truth (d - 1) (by omega) n ok mem1 hRU a1 a2 a3 1 r1 r2 r3 rv9 (fun c c1 c2 => (hRI1.1 c c1 c2).2.2.1.1) (fun c k c1 c2 k1 k2 => ((hRI1.1 c c1 c2).2.2.1.2 k k1 k2).2.2.1)) hnf (Or.inl rfl) (fun r ok2 mem2 hq => ?_)
      obtain ⟨rfl, rfl, rfl⟩ := hq
      have hF : rTruth mem1 a1 a2 a3 1 = pOv (rTruth mem a1 a2 a3 1) mem1 := by
        have h9 := rTruth_ov mem mem1 a1 a2 a3 1
        rw [hov] at h9; exact h9
      rw [hF]
      exact pw_eqx 1800 (by decide) dL_law_508 (KK ok _ (INV_ov hU hRU hG1 (RI_truth hRI a1 a2 a3 1)))
set_option maxHeartbeats 4000000 in
set_option maxRecDepth 100000 in
theorem lc_copyTruths (nm : String) (L : Nat) (xs : Nat → Int) (d nf n : Nat) (hd : 8 ≤ d) (Q : pQt) (i : Int) (hi : 0 ≤ i ∧ i + 7 ≤ L) (ok : pO) (mem : pM) (hV : INV n ok mem) (hnf : n ≤ nf) (a1 a2 a3 a4 a5 a6 : Int) (h1 : mX (miL nm L xs) (i + 1).toNat = a1) (r1 : -2147483648 ≤ a1 ∧ a1 ≤ 2147483647) (h2 : mX (miL nm L xs) (i + 2).toNat = a2) (r2 : -2147483648 ≤ a2 ∧ a2 ≤ 2147483647) (h3 : mX (miL nm L xs) (i + 3).toNat = a3) (r3 : -2147483648 ≤ a3 ∧ a3 ≤ 2147483647) (h4 : mX (miL nm L xs) (i + 4).toNat = a4) (r4 : -2147483648 ≤ a4 ∧ a4 ≤ 2147483647) (h5 : mX (miL nm L xs) (i + 5).toNat = a5) (r5 : -2147483648 ≤ a5 ∧ a5 ≤ 2147483647) (h6 : mX (miL nm L xs) (i + 6).toNat = a6) (r6 : -2147483648 ≤ a6 ∧ a6 ≤ 2147483647) (KK : ∀ ok' mem', INV n ok' mem' → PW (miL nm L xs) d nf 0 Q 1800 [(0, vr 1003), (1, vr 1), (2, vr 88), (3, vi i)] [] n ok' mem') : PW (miL nm L xs) d nf 0 Q 513 [(0, vr 1003), (1, vr 1), (2, vr 88), (3, vi i)] [] n ok mem := by
  obtain ⟨hU, hRU, hG, hRI⟩ := hV
  have hP9 := hU.1
  have hR9 := hRU.1
  have hn133 := hU.2.2.2.2.2.2.2.2.2.2
  have hn4 := hU.2.2.1.1
  have hn88 := hRU.1.1.2.1
  refine pw_aload_n 1 rfl dL_law_513 rfl ?_
  refine pw_aload_n 0 rfl dL_law_514 rfl ?_
  refine pw_iload_n 3 rfl dL_law_515 rfl ?_
  refine pw_iconst dL_law_516 ?_
  refine pw_iadd dL_law_517 ?_
  refine pw_sld rfl dL_law_518 (by omega) (show i + 1 < ((L : Nat) : Int) by omega) ?_
  rw [h1]
  refine pw_aload_n 0 rfl dL_law_519 rfl ?_
  refine pw_iload_n 3 rfl dL_law_520 rfl ?_
  refine pw_iconst dL_law_521 ?_
  refine pw_iadd dL_law_522 ?_
  refine pw_sld rfl dL_law_523 (by omega) (show i + 2 < ((L : Nat) : Int) by omega) ?_
  rw [h2]
  refine pw_aload_n 0 rfl dL_law_524 rfl ?_
  refine pw_iload_n 3 rfl dL_law_525 rfl ?_
  refine pw_iconst dL_law_526 ?_
  refine pw_iadd dL_law_527 ?_
  refine pw_sld rfl dL_law_528 (by omega) (show i + 3 < ((L : Nat) : Int) by omega) ?_
  rw [h3]
  refine pw_aload_n 0 rfl dL_law_529 rfl ?_
  refine pw_iload_n 3 rfl dL_law_530 rfl ?_
  refine pw_iconst dL_law_531 ?_
  refine pw_iadd dL_law_532 ?_
  refine pw_sld rfl dL_law_533 (by omega) (show i + 4 < ((L : Nat) : Int) by omega) ?_
  rw [h4]
  refine pw_aload_n 0 rfl dL_law_534 rfl ?_
  refine pw_iload_n 3 rfl dL_law_535 rfl ?_
  refine pw_iconst dL_law_536 ?_
  refine pw_iadd dL_law_537 ?_
  refine pw_sld rfl dL_law_538 (by omega) (show i + 5 < ((L : Nat) : Int) by omega) ?_
  rw [h5]
  refine pw_aload_n 0 rfl dL_law_539 rfl ?_
  refine pw_iload_n 3 rfl dL_law_540 rfl ?_
  refine pw_bipush dL_law_541 (by decide) ?_
  refine pw_iadd dL_law_543 ?_
  refine pw_sld rfl dL_law_544 (by omega) (show i + 6 < ((L : Nat) : Int) by omega) ?_
  rw [h6]
  refine pw_callV (d' := d - 1) (As := [_, _, _, _, _, _]) (ci := 9) dL_law_545 ok_X9_copyTruths kw_494 rfl rfl (Of.o (by assumption)) (by omega) rfl (Nat.le_of_ble_eq_true rfl) (p_copyTruths (d - 1) (by omega) n ok mem hU hG hRI a1 a2 a3 a4 a5 a6 r1 r2 r3 r4 r5 r6) hnf (Or.inl rfl) (fun r ok1 mem1 hq => ?_)
  obtain ⟨rfl, rfl, hRE, hG1⟩ := hq
  have hov := ov_id hRE
  have hRI1 := RI_re hRI hRE
  refine pw_aload_n 2 rfl dL_law_548 rfl ?_
  refine pw_aload_n 0 rfl dL_law_549 rfl ?_
  refine pw_iload_n 3 rfl dL_law_550 rfl ?_
  refine pw_iconst dL_law_551 ?_
  refine pw_iadd dL_law_552 ?_
  refine pw_sld rfl dL_law_553 (by omega) (show i + 1 < ((L : Nat) : Int) by omega) ?_
  rw [h1]
  refine pw_aload_n 0 rfl dL_law_554 rfl ?_
  refine pw_iload_n 3 rfl dL_law_555 rfl ?_
  refine pw_iconst dL_law_556 ?_
  refine pw_iadd dL_law_557 ?_
  refine pw_sld rfl dL_law_558 (by omega) (show i + 2 < ((L : Nat) : Int) by omega) ?_
  rw [h2]
  refine pw_aload_n 0 rfl dL_law_559 rfl ?_
  refine pw_iload_n 3 rfl dL_law_560 rfl ?_
  refine pw_iconst dL_law_561 ?_
  refine pw_iadd dL_law_562 ?_
  refine pw_sld rfl dL_law_563 (by omega) (show i + 3 < ((L : Nat) : Int) by omega) ?_
  rw [h3]
  refine pw_aload_n 0 rfl dL_law_564 rfl ?_
  refine pw_iload_n 3 rfl dL_law_565 rfl ?_
  refine pw_iconst dL_law_566 ?_
  refine pw_iadd dL_law_567 ?_
  refine pw_sld rfl dL_law_568 (by omega) (show i + 4 < ((L : Nat) : Int) by omega) ?_
  rw [h4]
  refine pw_aload_n 0 rfl dL_law_569 rfl ?_
  refine pw_iload_n 3 rfl dL_law_570 rfl ?_
  refine pw_iconst dL_law_571 ?_
  refine pw_iadd dL_law_572 ?_
  refine pw_sld rfl dL_law_573 (by omega) (show i + 5 < ((L : Nat) : Int) by omega) ?_
  rw [h5]
  refine pw_aload_n 0 rfl dL_law_574 rfl ?_
  refine pw_iload_n 3 rfl dL_law_575 rfl ?_
  refine pw_bipush dL_law_576 (by decide) ?_
  refine pw_iadd dL_law_578 ?_
  refine pw_sld rfl dL_law_579 (by omega) (show i + 6 < ((L : Nat) : Int) by omega) ?_
  rw [h6]
  refine pw_callV (d' := d - 1) (As := [_, _, _, _, _, _]) (ci := 10) dL_law_580 ok_X10_copyTruths kw_1316 rfl rfl (Of.o (by assumption)) (by omega) rfl (Nat.le_of_ble_eq_true rfl) (r_copyTruths (d - 1) (by omega) n ok mem1 hRU a1 a2 a3 a4 a5 a6 r1 r2 r3 r4 r5 r6 (fun c c1 c2 => (hRI1.1 c c1 c2).2.2.1.1) (fun c k c1 c2 k1 k2 => ((hRI1.1 c c1 c2).2.2.1.2 k k1 k2).2.2.1)) hnf (Or.inl rfl) (fun r ok2 mem2 hq => ?_)
  obtain ⟨rfl, rfl, rfl⟩ := hq
  have hF : rCpT mem1 a1 a2 a3 a4 a5 a6 = pOv (rCpT mem a1 a2 a3 a4 a5 a6) mem1 := by
    have h9 := rCpT_ov mem mem1 a1 a2 a3 a4 a5 a6
    rw [hov] at h9; exact h9
  rw [hF]
  exact pw_eqx 1800 (by decide) dL_law_583 (KK ok _ (INV_ov hU hRU hG1 (RI_cpT hRI a1 a2 a3 a4 a5 a6)))
set_option maxHeartbeats 4000000 in
set_option maxRecDepth 100000 in
theorem lc_jam (nm : String) (L : Nat) (xs : Nat → Int) (d nf n : Nat) (hd : 8 ≤ d) (Q : pQt) (i : Int) (hi : 0 ≤ i ∧ i + 7 ≤ L) (ok : pO) (mem : pM) (hV : INV n ok mem) (hnf : n ≤ nf) (a1 a2 a3 : Int) (h1 : mX (miL nm L xs) (i + 1).toNat = a1) (r1 : -2147483648 ≤ a1 ∧ a1 ≤ 2147483647) (h2 : mX (miL nm L xs) (i + 2).toNat = a2) (r2 : -2147483648 ≤ a2 ∧ a2 ≤ 2147483647) (h3 : mX (miL nm L xs) (i + 3).toNat = a3) (r3 : -2147483648 ≤ a3 ∧ a3 ≤ 2147483647) (KK : ∀ ok' mem', INV n ok' mem' → PW (miL nm L xs) d nf 0 Q 1800 [(0, vr 1003), (1, vr 1), (2, vr 88), (3, vi i)] [] n ok' mem') : PW (miL nm L xs) d nf 0 Q 588 [(0, vr 1003), (1, vr 1), (2, vr 88), (3, vi i)] [] n ok mem := by
  obtain ⟨hU, hRU, hG, hRI⟩ := hV
  have hP9 := hU.1
  have hR9 := hRU.1
  have hn133 := hU.2.2.2.2.2.2.2.2.2.2
  have hn4 := hU.2.2.1.1
  have hn88 := hRU.1.1.2.1
  refine pw_aload_n 1 rfl dL_law_588 rfl ?_
  refine pw_aload_n 0 rfl dL_law_589 rfl ?_
  refine pw_iload_n 3 rfl dL_law_590 rfl ?_
  refine pw_iconst dL_law_591 ?_
  refine pw_iadd dL_law_592 ?_
  refine pw_sld rfl dL_law_593 (by omega) (show i + 1 < ((L : Nat) : Int) by omega) ?_
  rw [h1]
  refine pw_aload_n 0 rfl dL_law_594 rfl ?_
  refine pw_iload_n 3 rfl dL_law_595 rfl ?_
  refine pw_iconst dL_law_596 ?_
  refine pw_iadd dL_law_597 ?_
  refine pw_sld rfl dL_law_598 (by omega) (show i + 2 < ((L : Nat) : Int) by omega) ?_
  rw [h2]
  refine pw_aload_n 0 rfl dL_law_599 rfl ?_
  refine pw_iload_n 3 rfl dL_law_600 rfl ?_
  refine pw_iconst dL_law_601 ?_
  refine pw_iadd dL_law_602 ?_
  refine pw_sld rfl dL_law_603 (by omega) (show i + 3 < ((L : Nat) : Int) by omega) ?_
  rw [h3]
  refine pw_callV (d' := d - 1) (As := [_, _, _]) (ci := 9) dL_law_604 ok_X9_jam kw_498 rfl rfl (Of.o (by assumption)) (by omega) rfl (Nat.le_of_ble_eq_true rfl) (p_jam (d - 1) (by omega) n ok mem hU hG hRI a1 a2 a3 r1 r2 r3) hnf (Or.inl rfl) (fun r ok1 mem1 hq => ?_)
  obtain ⟨rfl, rfl, hRE, hG1⟩ := hq
  have hov := ov_id hRE
  have hRI1 := RI_re hRI hRE
  refine pw_aload_n 2 rfl dL_law_607 rfl ?_
  refine pw_aload_n 0 rfl dL_law_608 rfl ?_
  refine pw_iload_n 3 rfl dL_law_609 rfl ?_
  refine pw_iconst dL_law_610 ?_
  refine pw_iadd dL_law_611 ?_
  refine pw_sld rfl dL_law_612 (by omega) (show i + 1 < ((L : Nat) : Int) by omega) ?_
  rw [h1]
  refine pw_aload_n 0 rfl dL_law_613 rfl ?_
  refine pw_iload_n 3 rfl dL_law_614 rfl ?_
  refine pw_iconst dL_law_615 ?_
  refine pw_iadd dL_law_616 ?_
  refine pw_sld rfl dL_law_617 (by omega) (show i + 2 < ((L : Nat) : Int) by omega) ?_
  rw [h2]
  refine pw_aload_n 0 rfl dL_law_618 rfl ?_
  refine pw_iload_n 3 rfl dL_law_619 rfl ?_
  refine pw_iconst dL_law_620 ?_
  refine pw_iadd dL_law_621 ?_
  refine pw_sld rfl dL_law_622 (by omega) (show i + 3 < ((L : Nat) : Int) by omega) ?_
  rw [h3]
  refine pw_callV (d' := d - 1) (As := [_, _, _]) (ci := 10) dL_law_623 ok_X10_jam kw_1320 rfl rfl (Of.o (by assumption)) (by omega) rfl (Nat.le_of_ble_eq_true rfl) (r_jam (d - 1) (by omega) n ok mem1 hRU a1 a2 a3 r1 r2 r3) hnf (Or.inl rfl) (fun r ok2 mem2 hq => ?_)
  obtain ⟨rfl, rfl, rfl⟩ := hq
  have hF : rJam mem1 a1 a2 a3 = pOv (rJam mem a1 a2 a3) mem1 := by
    have h9 := rJam_ov mem mem1 a1 a2 a3
    rw [hov] at h9; exact h9
  rw [hF]
  exact pw_eqx 1800 (by decide) dL_law_626 (KK ok _ (INV_ov hU hRU hG1 (RI_jam hRI a1 a2 a3)))
set_option maxHeartbeats 4000000 in
set_option maxRecDepth 100000 in
theorem lc_clear (nm : String) (L : Nat) (xs : Nat → Int) (d nf n : Nat) (hd : 8 ≤ d) (Q : pQt) (i : Int) (hi : 0 ≤ i ∧ i + 7 ≤ L) (ok : pO) (mem : pM) (hV : INV n ok mem) (hnf : n ≤ nf) (a1 : Int) (h1 : mX (miL nm L xs) (i + 1).toNat = a1) (r1 : -2147483648 ≤ a1 ∧ a1 ≤ 2147483647) (KK : ∀ ok' mem', INV n ok' mem' → PW (miL nm L xs) d nf 0 Q 1800 [(0, vr 1003), (1, vr 1), (2, vr 88), (3, vi i)] [] n ok' mem') : PW (miL nm L xs) d nf 0 Q 631 [(0, vr 1003), (1, vr 1), (2, vr 88), (3, vi i)] [] n ok mem := by
  obtain ⟨hU, hRU, hG, hRI⟩ := hV
  have hP9 := hU.1
  have hR9 := hRU.1
  have hn133 := hU.2.2.2.2.2.2.2.2.2.2
  have hn4 := hU.2.2.1.1
  have hn88 := hRU.1.1.2.1
  refine pw_aload_n 1 rfl dL_law_631 rfl ?_
  refine pw_aload_n 0 rfl dL_law_632 rfl ?_
  refine pw_iload_n 3 rfl dL_law_633 rfl ?_
  refine pw_iconst dL_law_634 ?_
  refine pw_iadd dL_law_635 ?_
  refine pw_sld rfl dL_law_636 (by omega) (show i + 1 < ((L : Nat) : Int) by omega) ?_
  rw [h1]
  refine pw_callV (d' := d - 1) (As := [_]) (ci := 9) dL_law_637 ok_X9_clear kw_502 rfl rfl (Of.o (by assumption)) (by omega) rfl (Nat.le_of_ble_eq_true rfl) (p_clear (d - 1) (by omega) n ok mem hU hG hRI a1 r1) hnf (Or.inl rfl) (fun r ok1 mem1 hq => ?_)
  obtain ⟨rfl, rfl, hRE, hG1⟩ := hq
  have hov := ov_id hRE
  have hRI1 := RI_re hRI hRE
  refine pw_aload_n 2 rfl dL_law_640 rfl ?_
  refine pw_aload_n 0 rfl dL_law_641 rfl ?_
  refine pw_iload_n 3 rfl dL_law_642 rfl ?_
  refine pw_iconst dL_law_643 ?_
  refine pw_iadd dL_law_644 ?_
  refine pw_sld rfl dL_law_645 (by omega) (show i + 1 < ((L : Nat) : Int) by omega) ?_
  rw [h1]
  refine pw_callV (d' := d - 1) (As := [_]) (ci := 10) dL_law_646 ok_X10_clear kw_1325 rfl rfl (Of.o (by assumption)) (by omega) rfl (Nat.le_of_ble_eq_true rfl) (r_clear (d - 1) (by omega) n ok mem1 hRU a1 r1) hnf (Or.inl rfl) (fun r ok2 mem2 hq => ?_)
  obtain ⟨rfl, rfl, rfl⟩ := hq
  have hF : rClear mem1 a1 = pOv (rClear mem a1) mem1 := by
    have h9 := rClear_ov mem mem1 a1
    rw [hov] at h9; exact h9
  rw [hF]
  exact pw_eqx 1800 (by decide) dL_law_649 (KK ok _ (INV_ov hU hRU hG1 (RI_clear hRI a1)))
set_option maxHeartbeats 4000000 in
set_option maxRecDepth 100000 in
theorem lc_copy (nm : String) (L : Nat) (xs : Nat → Int) (d nf n : Nat) (hd : 8 ≤ d) (Q : pQt) (i : Int) (hi : 0 ≤ i ∧ i + 7 ≤ L) (ok : pO) (mem : pM) (hV : INV n ok mem) (hnf : n ≤ nf) (a1 a2 : Int) (h1 : mX (miL nm L xs) (i + 1).toNat = a1) (r1 : -2147483648 ≤ a1 ∧ a1 ≤ 2147483647) (h2 : mX (miL nm L xs) (i + 2).toNat = a2) (r2 : -2147483648 ≤ a2 ∧ a2 ≤ 2147483647) (KK : ∀ ok' mem', INV n ok' mem' → PW (miL nm L xs) d nf 0 Q 1800 [(0, vr 1003), (1, vr 1), (2, vr 88), (3, vi i)] [] n ok' mem') : PW (miL nm L xs) d nf 0 Q 654 [(0, vr 1003), (1, vr 1), (2, vr 88), (3, vi i)] [] n ok mem := by
  obtain ⟨hU, hRU, hG, hRI⟩ := hV
  have hP9 := hU.1
  have hR9 := hRU.1
  have hn133 := hU.2.2.2.2.2.2.2.2.2.2
  have hn4 := hU.2.2.1.1
  have hn88 := hRU.1.1.2.1
  refine pw_aload_n 1 rfl dL_law_654 rfl ?_
  refine pw_aload_n 0 rfl dL_law_655 rfl ?_
  refine pw_iload_n 3 rfl dL_law_656 rfl ?_
  refine pw_iconst dL_law_657 ?_
  refine pw_iadd dL_law_658 ?_
  refine pw_sld rfl dL_law_659 (by omega) (show i + 1 < ((L : Nat) : Int) by omega) ?_
  rw [h1]
  refine pw_aload_n 0 rfl dL_law_660 rfl ?_
  refine pw_iload_n 3 rfl dL_law_661 rfl ?_
  refine pw_iconst dL_law_662 ?_
  refine pw_iadd dL_law_663 ?_
  refine pw_sld rfl dL_law_664 (by omega) (show i + 2 < ((L : Nat) : Int) by omega) ?_
  rw [h2]
  refine pw_callV (d' := d - 1) (As := [_, _]) (ci := 9) dL_law_665 ok_X9_copy kw_507 rfl rfl (Of.o (by assumption)) (by omega) rfl (Nat.le_of_ble_eq_true rfl) (p_copy (d - 1) (by omega) n ok mem hU hG hRI a1 a2 r1 r2) hnf (Or.inl rfl) (fun r ok1 mem1 hq => ?_)
  obtain ⟨rfl, rfl, hRE, hG1⟩ := hq
  have hov := ov_id hRE
  have hRI1 := RI_re hRI hRE
  refine pw_aload_n 2 rfl dL_law_668 rfl ?_
  refine pw_aload_n 0 rfl dL_law_669 rfl ?_
  refine pw_iload_n 3 rfl dL_law_670 rfl ?_
  refine pw_iconst dL_law_671 ?_
  refine pw_iadd dL_law_672 ?_
  refine pw_sld rfl dL_law_673 (by omega) (show i + 1 < ((L : Nat) : Int) by omega) ?_
  rw [h1]
  refine pw_aload_n 0 rfl dL_law_674 rfl ?_
  refine pw_iload_n 3 rfl dL_law_675 rfl ?_
  refine pw_iconst dL_law_676 ?_
  refine pw_iadd dL_law_677 ?_
  refine pw_sld rfl dL_law_678 (by omega) (show i + 2 < ((L : Nat) : Int) by omega) ?_
  rw [h2]
  refine pw_callV (d' := d - 1) (As := [_, _]) (ci := 10) dL_law_679 ok_X10_copy kw_1329 rfl rfl (Of.o (by assumption)) (by omega) rfl (Nat.le_of_ble_eq_true rfl) (r_copy (d - 1) (by omega) n ok mem1 hRU a1 a2 r1 r2) hnf (Or.inl rfl) (fun r ok2 mem2 hq => ?_)
  obtain ⟨rfl, rfl, rfl⟩ := hq
  have hF : rCopy mem1 a1 a2 = pOv (rCopy mem a1 a2) mem1 := by
    have h9 := rCopy_ov mem mem1 a1 a2
    rw [hov] at h9; exact h9
  rw [hF]
  exact pw_eqx 1800 (by decide) dL_law_682 (KK ok _ (INV_ov hU hRU hG1 (RI_copy hRI a1 a2)))
set_option maxHeartbeats 4000000 in
set_option maxRecDepth 100000 in
theorem lc_make0 (nm : String) (L : Nat) (xs : Nat → Int) (d nf n : Nat) (hd : 8 ≤ d) (Q : pQt) (i : Int) (hi : 0 ≤ i ∧ i + 7 ≤ L) (ok : pO) (mem : pM) (hV : INV n ok mem) (hnf : n ≤ nf) (a1 a2 a3 : Int) (h1 : mX (miL nm L xs) (i + 1).toNat = a1) (r1 : -2147483648 ≤ a1 ∧ a1 ≤ 2147483647) (h2 : mX (miL nm L xs) (i + 2).toNat = a2) (r2 : -2147483648 ≤ a2 ∧ a2 ≤ 2147483647) (h3 : mX (miL nm L xs) (i + 3).toNat = a3) (r3 : -2147483648 ≤ a3 ∧ a3 ≤ 2147483647) (hbad : ¬ ((0 ≤ a1 ∧ a1 ≤ 2) ∧ (0 ≤ a3 ∧ a3 ≤ 40))) (KK : ∀ ok' mem', INV n ok' mem' → PW (miL nm L xs) d nf 0 Q 1800 [(0, vr 1003), (1, vr 1), (2, vr 88), (3, vi i)] [] n ok' mem') : PW (miL nm L xs) d nf 0 Q 687 [(0, vr 1003), (1, vr 1), (2, vr 88), (3, vi i)] [] n ok mem := by
  obtain ⟨hU, hRU, hG, hRI⟩ := hV
  have hP9 := hU.1
  have hR9 := hRU.1
  have hn133 := hU.2.2.2.2.2.2.2.2.2.2
  have hn4 := hU.2.2.1.1
  have hn88 := hRU.1.1.2.1
  refine pw_aload_n 1 rfl dL_law_687 rfl ?_
  refine pw_aload_n 0 rfl dL_law_688 rfl ?_
  refine pw_iload_n 3 rfl dL_law_689 rfl ?_
  refine pw_iconst dL_law_690 ?_
  refine pw_iadd dL_law_691 ?_
  refine pw_sld rfl dL_law_692 (by omega) (show i + 1 < ((L : Nat) : Int) by omega) ?_
  rw [h1]
  refine pw_aload_n 0 rfl dL_law_693 rfl ?_
  refine pw_iload_n 3 rfl dL_law_694 rfl ?_
  refine pw_iconst dL_law_695 ?_
  refine pw_iadd dL_law_696 ?_
  refine pw_sld rfl dL_law_697 (by omega) (show i + 2 < ((L : Nat) : Int) by omega) ?_
  rw [h2]
  refine pw_aload_n 0 rfl dL_law_698 rfl ?_
  refine pw_iload_n 3 rfl dL_law_699 rfl ?_
  refine pw_iconst dL_law_700 ?_
  refine pw_iadd dL_law_701 ?_
  refine pw_sld rfl dL_law_702 (by omega) (show i + 3 < ((L : Nat) : Int) by omega) ?_
  rw [h3]
  refine pw_callV (d' := d - 1) (As := [_, _, _]) (ci := 9) dL_law_703 ok_X9_make kw_523 rfl rfl (Of.o (by assumption)) (by omega) rfl (Nat.le_of_ble_eq_true rfl) (p_make0 (d - 1) (by omega) n ok mem hU hG hRI a1 a2 a3 r1 r2 r3 hbad) hnf (Or.inl rfl) (fun r ok1 mem1 hq => ?_)
  obtain ⟨rfl, rfl, hRE, hG1⟩ := hq
  have hov := ov_id hRE
  have hRI1 := RI_re hRI hRE
  refine pw_aload_n 2 rfl dL_law_706 rfl ?_
  refine pw_aload_n 0 rfl dL_law_707 rfl ?_
  refine pw_iload_n 3 rfl dL_law_708 rfl ?_
  refine pw_iconst dL_law_709 ?_
  refine pw_iadd dL_law_710 ?_
  refine pw_sld rfl dL_law_711 (by omega) (show i + 1 < ((L : Nat) : Int) by omega) ?_
  rw [h1]
  refine pw_aload_n 0 rfl dL_law_712 rfl ?_
  refine pw_iload_n 3 rfl dL_law_713 rfl ?_
  refine pw_iconst dL_law_714 ?_
  refine pw_iadd dL_law_715 ?_
  refine pw_sld rfl dL_law_716 (by omega) (show i + 2 < ((L : Nat) : Int) by omega) ?_
  rw [h2]
  refine pw_aload_n 0 rfl dL_law_717 rfl ?_
  refine pw_iload_n 3 rfl dL_law_718 rfl ?_
  refine pw_iconst dL_law_719 ?_
  refine pw_iadd dL_law_720 ?_
  refine pw_sld rfl dL_law_721 (by omega) (show i + 3 < ((L : Nat) : Int) by omega) ?_
  rw [h3]
  refine pw_callV (d' := d - 1) (As := [_, _, _]) (ci := 10) dL_law_722 ok_X10_make kw_1337 rfl rfl (Of.o (by assumption)) (by omega) rfl (Nat.le_of_ble_eq_true rfl) (r_make (d - 1) (by omega) n ok mem1 hRU a1 a2 a3 r1 r2 r3 (by have := hRI1.2.2.1; omega)) hnf (Or.inl rfl) (fun r ok2 mem2 hq => ?_)
  obtain ⟨rfl, rfl, heq⟩ := hq
  have hF : rMake mem1 a1 a2 a3 = pOv (rMake mem a1 a2 a3) mem1 := by
    have h9 := rMake_ov mem mem1 a1 a2 a3
    rw [hov] at h9; exact h9
  rw [hF] at heq ⊢
  exact pw_eqx 1800 (by decide) dL_law_725 (KK ok _ (INV_eq hU hRU hG1 (RI_make hRI a1 a2 a3) heq))
set_option maxHeartbeats 4000000 in
set_option maxRecDepth 100000 in
theorem lc_make1 (nm : String) (L : Nat) (xs : Nat → Int) (d nf n : Nat) (hd : 8 ≤ d) (Q : pQt) (i : Int) (hi : 0 ≤ i ∧ i + 7 ≤ L) (ok : pO) (mem : pM) (hV : INV n ok mem) (hn9 : n ≤ 133) (hnf : nf = 133) (a1 a2 a3 : Int) (h1 : mX (miL nm L xs) (i + 1).toNat = a1) (r1 : -2147483648 ≤ a1 ∧ a1 ≤ 2147483647) (h2 : mX (miL nm L xs) (i + 2).toNat = a2) (r2 : -2147483648 ≤ a2 ∧ a2 ≤ 2147483647) (h3 : mX (miL nm L xs) (i + 3).toNat = a3) (r3 : -2147483648 ≤ a3 ∧ a3 ≤ 2147483647) (hg1 : 0 ≤ a1 ∧ a1 ≤ 2) (hg2 : 0 ≤ a3 ∧ a3 ≤ 40) (KK : ∀ ok' mem', INV 133 ok' mem' → PW (miL nm L xs) d nf 0 Q 1800 [(0, vr 1003), (1, vr 1), (2, vr 88), (3, vi i)] [] 133 ok' mem') : PW (miL nm L xs) d nf 0 Q 687 [(0, vr 1003), (1, vr 1), (2, vr 88), (3, vi i)] [] n ok mem := by
  obtain ⟨hU, hRU, hG, hRI⟩ := hV
  have hP9 := hU.1
  have hR9 := hRU.1
  have hn133 := hU.2.2.2.2.2.2.2.2.2.2
  have hn4 := hU.2.2.1.1
  have hn88 := hRU.1.1.2.1
  refine pw_aload_n 1 rfl dL_law_687 rfl ?_
  refine pw_aload_n 0 rfl dL_law_688 rfl ?_
  refine pw_iload_n 3 rfl dL_law_689 rfl ?_
  refine pw_iconst dL_law_690 ?_
  refine pw_iadd dL_law_691 ?_
  refine pw_sld rfl dL_law_692 (by omega) (show i + 1 < ((L : Nat) : Int) by omega) ?_
  rw [h1]
  refine pw_aload_n 0 rfl dL_law_693 rfl ?_
  refine pw_iload_n 3 rfl dL_law_694 rfl ?_
  refine pw_iconst dL_law_695 ?_
  refine pw_iadd dL_law_696 ?_
  refine pw_sld rfl dL_law_697 (by omega) (show i + 2 < ((L : Nat) : Int) by omega) ?_
  rw [h2]
  refine pw_aload_n 0 rfl dL_law_698 rfl ?_
  refine pw_iload_n 3 rfl dL_law_699 rfl ?_
  refine pw_iconst dL_law_700 ?_
  refine pw_iadd dL_law_701 ?_
  refine pw_sld rfl dL_law_702 (by omega) (show i + 3 < ((L : Nat) : Int) by omega) ?_
  rw [h3]
  refine pw_callV (d' := d - 1) (As := [_, _, _]) (ci := 9) dL_law_703 ok_X9_make kw_523 rfl rfl (Of.o (by assumption)) (by omega) rfl (Nat.le_of_ble_eq_true rfl) (p_make1 (d - 1) (by omega) n ok mem hU hG hRI a1 a2 a3 r1 r2 r3 hg1 hg2) (by omega) (Or.inr ⟨by simp [nrf]; omega, by simp [nrf]⟩) (fun r ok1 mem1 hq => ?_)
  obtain ⟨rfl, hok1, hU1, hRE, hG1⟩ := hq
  have hov := ov_id hRE
  have hRI1 := RI_re hRI hRE
  have hRU1 := RefUp_up hRU hn9 hok1
  have hRO1 := hRU1.1
  refine pw_aload_n 2 rfl dL_law_706 rfl ?_
  refine pw_aload_n 0 rfl dL_law_707 rfl ?_
  refine pw_iload_n 3 rfl dL_law_708 rfl ?_
  refine pw_iconst dL_law_709 ?_
  refine pw_iadd dL_law_710 ?_
  refine pw_sld rfl dL_law_711 (by omega) (show i + 1 < ((L : Nat) : Int) by omega) ?_
  rw [h1]
  refine pw_aload_n 0 rfl dL_law_712 rfl ?_
  refine pw_iload_n 3 rfl dL_law_713 rfl ?_
  refine pw_iconst dL_law_714 ?_
  refine pw_iadd dL_law_715 ?_
  refine pw_sld rfl dL_law_716 (by omega) (show i + 2 < ((L : Nat) : Int) by omega) ?_
  rw [h2]
  refine pw_aload_n 0 rfl dL_law_717 rfl ?_
  refine pw_iload_n 3 rfl dL_law_718 rfl ?_
  refine pw_iconst dL_law_719 ?_
  refine pw_iadd dL_law_720 ?_
  refine pw_sld rfl dL_law_721 (by omega) (show i + 3 < ((L : Nat) : Int) by omega) ?_
  rw [h3]
  refine pw_callV (d' := d - 1) (As := [_, _, _]) (ci := 10) dL_law_722 ok_X10_make kw_1337 rfl rfl (Of.o (by assumption)) (by omega) rfl (Nat.le_of_ble_eq_true rfl) (r_make (d - 1) (by omega) 133 ok1 mem1 hRU1 a1 a2 a3 r1 r2 r3 (by have := hRI1.2.2.1; omega)) (by omega) (Or.inl rfl) (fun r ok2 mem2 hq => ?_)
  obtain ⟨rfl, rfl, heq⟩ := hq
  have hF : rMake mem1 a1 a2 a3 = pOv (rMake mem a1 a2 a3) mem1 := by
    have h9 := rMake_ov mem mem1 a1 a2 a3
    rw [hov] at h9; exact h9
  rw [hF] at heq ⊢
  exact pw_eqx 1800 (by decide) dL_law_725 (KK ok1 _ (INV_eq hU1 hRU1 hG1 (RI_make hRI a1 a2 a3) heq))
set_option maxHeartbeats 4000000 in
set_option maxRecDepth 100000 in
theorem lc_told (nm : String) (L : Nat) (xs : Nat → Int) (d nf n : Nat) (hd : 8 ≤ d) (Q : pQt) (i : Int) (hi : 0 ≤ i ∧ i + 7 ≤ L) (ok : pO) (mem : pM) (hV : INV n ok mem) (hnf : n ≤ nf) (a1 a2 a3 : Int) (h1 : mX (miL nm L xs) (i + 1).toNat = a1) (r1 : -2147483648 ≤ a1 ∧ a1 ≤ 2147483647) (h2 : mX (miL nm L xs) (i + 2).toNat = a2) (r2 : -2147483648 ≤ a2 ∧ a2 ≤ 2147483647) (h3 : mX (miL nm L xs) (i + 3).toNat = a3) (r3 : -2147483648 ≤ a3 ∧ a3 ≤ 2147483647) (KK : ∀ ok' mem', INV n ok' mem' → PW (miL nm L xs) d nf 0 Q 1800 [(0, vr 1003), (1, vr 1), (2, vr 88), (3, vi i)] [] n ok' mem') : PW (miL nm L xs) d nf 0 Q 730 [(0, vr 1003), (1, vr 1), (2, vr 88), (3, vi i)] [] n ok mem := by
  obtain ⟨hU, hRU, hG, hRI⟩ := hV
  have hP9 := hU.1
  have hR9 := hRU.1
  have hn133 := hU.2.2.2.2.2.2.2.2.2.2
  have hn4 := hU.2.2.1.1
  have hn88 := hRU.1.1.2.1
  refine pw_aload_n 1 rfl dL_law_730 rfl ?_
  refine pw_aload_n 0 rfl dL_law_731 rfl ?_
  refine pw_iload_n 3 rfl dL_law_732 rfl ?_
  refine pw_iconst dL_law_733 ?_
  refine pw_iadd dL_law_734 ?_
  refine pw_sld rfl dL_law_735 (by omega) (show i + 1 < ((L : Nat) : Int) by omega) ?_
  rw [h1]
  refine pw_aload_n 0 rfl dL_law_736 rfl ?_
  refine pw_iload_n 3 rfl dL_law_737 rfl ?_
  refine pw_iconst dL_law_738 ?_
  refine pw_iadd dL_law_739 ?_
  refine pw_sld rfl dL_law_740 (by omega) (show i + 2 < ((L : Nat) : Int) by omega) ?_
  rw [h2]
  refine pw_aload_n 0 rfl dL_law_741 rfl ?_
  refine pw_iload_n 3 rfl dL_law_742 rfl ?_
  refine pw_iconst dL_law_743 ?_
  refine pw_iadd dL_law_744 ?_
  refine pw_sld rfl dL_law_745 (by omega) (show i + 3 < ((L : Nat) : Int) by omega) ?_
  rw [h3]
  refine pw_callV (d' := d - 1) (As := [_, _, _]) (ci := 9) dL_law_746 ok_X9_told kw_735 rfl rfl (Of.o (by assumption)) (by omega) rfl (Nat.le_of_ble_eq_true rfl) (p_told (d - 1) (by omega) n ok mem hU hG hRI a1 a2 a3 r1 r2 r3) hnf (Or.inl rfl) (fun r ok1 mem1 hq => ?_)
  obtain ⟨rfl, rfl, hRE, hG1⟩ := hq
  have hov := ov_id hRE
  have hRI1 := RI_re hRI hRE
  refine pw_aload_n 2 rfl dL_law_749 rfl ?_
  refine pw_aload_n 0 rfl dL_law_750 rfl ?_
  refine pw_iload_n 3 rfl dL_law_751 rfl ?_
  refine pw_iconst dL_law_752 ?_
  refine pw_iadd dL_law_753 ?_
  refine pw_sld rfl dL_law_754 (by omega) (show i + 1 < ((L : Nat) : Int) by omega) ?_
  rw [h1]
  refine pw_aload_n 0 rfl dL_law_755 rfl ?_
  refine pw_iload_n 3 rfl dL_law_756 rfl ?_
  refine pw_iconst dL_law_757 ?_
  refine pw_iadd dL_law_758 ?_
  refine pw_sld rfl dL_law_759 (by omega) (show i + 2 < ((L : Nat) : Int) by omega) ?_
  rw [h2]
  refine pw_aload_n 0 rfl dL_law_760 rfl ?_
  refine pw_iload_n 3 rfl dL_law_761 rfl ?_
  refine pw_iconst dL_law_762 ?_
  refine pw_iadd dL_law_763 ?_
  refine pw_sld rfl dL_law_764 (by omega) (show i + 3 < ((L : Nat) : Int) by omega) ?_
  rw [h3]
  refine pw_callV (d' := d - 1) (As := [_, _, _]) (ci := 10) dL_law_765 ok_X10_told kw_1418 rfl rfl (Of.o (by assumption)) (by omega) rfl (Nat.le_of_ble_eq_true rfl) (r_told (d - 1) (by omega) n ok mem1 hRU a1 a2 a3 r1 r2 r3) hnf (Or.inl rfl) (fun r ok2 mem2 hq => ?_)
  obtain ⟨rfl, rfl, rfl⟩ := hq
  have hF : rTold mem1 a1 a2 a3 = pOv (rTold mem a1 a2 a3) mem1 := by
    have h9 := rTold_ov mem mem1 a1 a2 a3
    rw [hov] at h9; exact h9
  rw [hF]
  exact pw_eqx 1800 (by decide) dL_law_768 (KK ok _ (INV_ov hU hRU hG1 (RI_told hRI a1 a2 a3)))
set_option maxHeartbeats 4000000 in
set_option maxRecDepth 100000 in
theorem lc_tell (nm : String) (L : Nat) (xs : Nat → Int) (d nf n : Nat) (hd : 8 ≤ d) (Q : pQt) (i : Int) (hi : 0 ≤ i ∧ i + 7 ≤ L) (ok : pO) (mem : pM) (hV : INV n ok mem) (hnf : n ≤ nf) (a1 a2 : Int) (h1 : mX (miL nm L xs) (i + 1).toNat = a1) (r1 : -2147483648 ≤ a1 ∧ a1 ≤ 2147483647) (h2 : mX (miL nm L xs) (i + 2).toNat = a2) (r2 : -2147483648 ≤ a2 ∧ a2 ≤ 2147483647) (KK : ∀ ok' mem', INV n ok' mem' → PW (miL nm L xs) d nf 0 Q 1800 [(0, vr 1003), (1, vr 1), (2, vr 88), (3, vi i)] [] n ok' mem') : PW (miL nm L xs) d nf 0 Q 773 [(0, vr 1003), (1, vr 1), (2, vr 88), (3, vi i)] [] n ok mem := by
  obtain ⟨hU, hRU, hG, hRI⟩ := hV
  have hP9 := hU.1
  have hR9 := hRU.1
  have hn133 := hU.2.2.2.2.2.2.2.2.2.2
  have hn4 := hU.2.2.1.1
  have hn88 := hRU.1.1.2.1
  refine pw_aload_n 1 rfl dL_law_773 rfl ?_
  refine pw_aload_n 0 rfl dL_law_774 rfl ?_
  refine pw_iload_n 3 rfl dL_law_775 rfl ?_
  refine pw_iconst dL_law_776 ?_
  refine pw_iadd dL_law_777 ?_
  refine pw_sld rfl dL_law_778 (by omega) (show i + 1 < ((L : Nat) : Int) by omega) ?_
  rw [h1]
  refine pw_aload_n 0 rfl dL_law_779 rfl ?_
  refine pw_iload_n 3 rfl dL_law_780 rfl ?_
  refine pw_iconst dL_law_781 ?_
  refine pw_iadd dL_law_782 ?_
  refine pw_sld rfl dL_law_783 (by omega) (show i + 2 < ((L : Nat) : Int) by omega) ?_
  rw [h2]
  refine pw_callV (d' := d - 1) (As := [_, _]) (ci := 9) dL_law_784 ok_X9_tell kw_739 rfl rfl (Of.o (by assumption)) (by omega) rfl (Nat.le_of_ble_eq_true rfl) (p_tell (d - 1) (by omega) n ok mem hU hG hRI a1 a2 r1 r2) hnf (Or.inl rfl) (fun r ok1 mem1 hq => ?_)
  obtain ⟨rfl, rfl, hRE, hG1⟩ := hq
  have hov := ov_id hRE
  have hRI1 := RI_re hRI hRE
  refine pw_aload_n 2 rfl dL_law_787 rfl ?_
  refine pw_aload_n 0 rfl dL_law_788 rfl ?_
  refine pw_iload_n 3 rfl dL_law_789 rfl ?_
  refine pw_iconst dL_law_790 ?_
  refine pw_iadd dL_law_791 ?_
  refine pw_sld rfl dL_law_792 (by omega) (show i + 1 < ((L : Nat) : Int) by omega) ?_
  rw [h1]
  refine pw_aload_n 0 rfl dL_law_793 rfl ?_
  refine pw_iload_n 3 rfl dL_law_794 rfl ?_
  refine pw_iconst dL_law_795 ?_
  refine pw_iadd dL_law_796 ?_
  refine pw_sld rfl dL_law_797 (by omega) (show i + 2 < ((L : Nat) : Int) by omega) ?_
  rw [h2]
  refine pw_callV (d' := d - 1) (As := [_, _]) (ci := 10) dL_law_798 ok_X10_tell kw_1422 rfl rfl (Of.o (by assumption)) (by omega) rfl (Nat.le_of_ble_eq_true rfl) (r_tell (d - 1) (by omega) n ok mem1 hRU a1 a2 r1 r2 (fun c c1 c2 => (hRI1.1 c c1 c2).ok)) hnf (Or.inl rfl) (fun r ok2 mem2 hq => ?_)
  obtain ⟨rfl, rfl, rfl⟩ := hq
  have hF : rTell (wr mem1 88 19 0) a1 a2 = pOv (rTell (wr mem 88 19 0) a1 a2) mem1 := by
    rw [t0_ov hov]; exact rTell_ov _ _ _ _
  rw [hF]
  exact pw_eqx 1800 (by decide) dL_law_801 (KK ok _ (INV_ov hU hRU hG1 (RI_tell (RI_t0 hRI) (wr_s _ _ _ _) a1 a2)))
set_option maxHeartbeats 4000000 in
set_option maxRecDepth 100000 in
theorem lc_conditionTold (nm : String) (L : Nat) (xs : Nat → Int) (d nf n : Nat) (hd : 8 ≤ d) (Q : pQt) (i : Int) (hi : 0 ≤ i ∧ i + 7 ≤ L) (ok : pO) (mem : pM) (hV : INV n ok mem) (hnf : n ≤ nf) (a1 a2 a3 : Int) (h1 : mX (miL nm L xs) (i + 1).toNat = a1) (r1 : -2147483648 ≤ a1 ∧ a1 ≤ 2147483647) (h2 : mX (miL nm L xs) (i + 2).toNat = a2) (r2 : -2147483648 ≤ a2 ∧ a2 ≤ 2147483647) (h3 : mX (miL nm L xs) (i + 3).toNat = a3) (r3 : -2147483648 ≤ a3 ∧ a3 ≤ 2147483647) (KK : ∀ ok' mem', INV n ok' mem' → PW (miL nm L xs) d nf 0 Q 1800 [(0, vr 1003), (1, vr 1), (2, vr 88), (3, vi i)] [] n ok' mem') : PW (miL nm L xs) d nf 0 Q 806 [(0, vr 1003), (1, vr 1), (2, vr 88), (3, vi i)] [] n ok mem := by
  obtain ⟨hU, hRU, hG, hRI⟩ := hV
  have hP9 := hU.1
  have hR9 := hRU.1
  have hn133 := hU.2.2.2.2.2.2.2.2.2.2
  have hn4 := hU.2.2.1.1
  have hn88 := hRU.1.1.2.1
  refine pw_aload_n 1 rfl dL_law_806 rfl ?_
  refine pw_aload_n 0 rfl dL_law_807 rfl ?_
  refine pw_iload_n 3 rfl dL_law_808 rfl ?_
  refine pw_iconst dL_law_809 ?_
  refine pw_iadd dL_law_810 ?_
  refine pw_sld rfl dL_law_811 (by omega) (show i + 1 < ((L : Nat) : Int) by omega) ?_
  rw [h1]
  refine pw_aload_n 0 rfl dL_law_812 rfl ?_
  refine pw_iload_n 3 rfl dL_law_813 rfl ?_
  refine pw_iconst dL_law_814 ?_
  refine pw_iadd dL_law_815 ?_
  refine pw_sld rfl dL_law_816 (by omega) (show i + 2 < ((L : Nat) : Int) by omega) ?_
  rw [h2]
  refine pw_aload_n 0 rfl dL_law_817 rfl ?_
  refine pw_iload_n 3 rfl dL_law_818 rfl ?_
  refine pw_iconst dL_law_819 ?_
  refine pw_iadd dL_law_820 ?_
  refine pw_sld rfl dL_law_821 (by omega) (show i + 3 < ((L : Nat) : Int) by omega) ?_
  rw [h3]
  refine pw_callV (d' := d - 1) (As := [_, _, _]) (ci := 9) dL_law_822 ok_X9_conditionTold kw_749 rfl rfl (Of.o (by assumption)) (by omega) rfl (Nat.le_of_ble_eq_true rfl) (p_conditionTold (d - 1) (by omega) n ok mem hU hG hRI a1 a2 a3 r1 r2 r3) hnf (Or.inl rfl) (fun r ok1 mem1 hq => ?_)
  obtain ⟨rfl, rfl, hRE, hG1⟩ := hq
  have hov := ov_id hRE
  have hRI1 := RI_re hRI hRE
  refine pw_aload_n 2 rfl dL_law_825 rfl ?_
  refine pw_aload_n 0 rfl dL_law_826 rfl ?_
  refine pw_iload_n 3 rfl dL_law_827 rfl ?_
  refine pw_iconst dL_law_828 ?_
  refine pw_iadd dL_law_829 ?_
  refine pw_sld rfl dL_law_830 (by omega) (show i + 1 < ((L : Nat) : Int) by omega) ?_
  rw [h1]
  refine pw_aload_n 0 rfl dL_law_831 rfl ?_
  refine pw_iload_n 3 rfl dL_law_832 rfl ?_
  refine pw_iconst dL_law_833 ?_
  refine pw_iadd dL_law_834 ?_
  refine pw_sld rfl dL_law_835 (by omega) (show i + 2 < ((L : Nat) : Int) by omega) ?_
  rw [h2]
  refine pw_aload_n 0 rfl dL_law_836 rfl ?_
  refine pw_iload_n 3 rfl dL_law_837 rfl ?_
  refine pw_iconst dL_law_838 ?_
  refine pw_iadd dL_law_839 ?_
  refine pw_sld rfl dL_law_840 (by omega) (show i + 3 < ((L : Nat) : Int) by omega) ?_
  rw [h3]
  refine pw_callV (d' := d - 1) (As := [_, _, _]) (ci := 10) dL_law_841 ok_X10_conditionTold kw_1426 rfl rfl (Of.o (by assumption)) (by omega) rfl (Nat.le_of_ble_eq_true rfl) (r_conditionTold (d - 1) (by omega) n ok mem1 hRU a1 a2 a3 r1 r2 r3 (fun c c1 c2 => (hRI1.1 c c1 c2).2.2.1.1) (fun c k c1 c2 k1 k2 => ((hRI1.1 c c1 c2).2.2.1.2 k k1 k2).2.2.1)) hnf (Or.inl rfl) (fun r ok2 mem2 hq => ?_)
  obtain ⟨rfl, rfl, rfl⟩ := hq
  have hF : rCTold mem1 a1 a2 a3 = pOv (rCTold mem a1 a2 a3) mem1 := by
    have h9 := rCTold_ov mem mem1 a1 a2 a3
    rw [hov] at h9; exact h9
  rw [hF]
  exact pw_eqx 1800 (by decide) dL_law_844 (KK ok _ (INV_ov hU hRU hG1 (RI_cTold hRI a1 a2 a3)))
set_option maxHeartbeats 4000000 in
set_option maxRecDepth 100000 in
theorem lc_holds (nm : String) (L : Nat) (xs : Nat → Int) (d nf n : Nat) (hd : 8 ≤ d) (Q : pQt) (i : Int) (hi : 0 ≤ i ∧ i + 7 ≤ L) (ok : pO) (mem : pM) (hV : INV n ok mem) (hnf : n ≤ nf) (a1 a2 : Int) (h1 : mX (miL nm L xs) (i + 1).toNat = a1) (r1 : -2147483648 ≤ a1 ∧ a1 ≤ 2147483647) (h2 : mX (miL nm L xs) (i + 2).toNat = a2) (r2 : -2147483648 ≤ a2 ∧ a2 ≤ 2147483647) (KK : ∀ ok' mem', INV n ok' mem' → PW (miL nm L xs) d nf 0 Q 1800 [(0, vr 1003), (1, vr 1), (2, vr 88), (3, vi i)] [] n ok' mem') : PW (miL nm L xs) d nf 0 Q 849 [(0, vr 1003), (1, vr 1), (2, vr 88), (3, vi i)] [] n ok mem := by
  obtain ⟨hU, hRU, hG, hRI⟩ := hV
  have hP9 := hU.1
  have hR9 := hRU.1
  have hn133 := hU.2.2.2.2.2.2.2.2.2.2
  have hn4 := hU.2.2.1.1
  have hn88 := hRU.1.1.2.1
  refine pw_aload_n 1 rfl dL_law_849 rfl ?_
  refine pw_aload_n 0 rfl dL_law_850 rfl ?_
  refine pw_iload_n 3 rfl dL_law_851 rfl ?_
  refine pw_iconst dL_law_852 ?_
  refine pw_iadd dL_law_853 ?_
  refine pw_sld rfl dL_law_854 (by omega) (show i + 1 < ((L : Nat) : Int) by omega) ?_
  rw [h1]
  refine pw_aload_n 0 rfl dL_law_855 rfl ?_
  refine pw_iload_n 3 rfl dL_law_856 rfl ?_
  refine pw_iconst dL_law_857 ?_
  refine pw_iadd dL_law_858 ?_
  refine pw_sld rfl dL_law_859 (by omega) (show i + 2 < ((L : Nat) : Int) by omega) ?_
  rw [h2]
  refine pw_callV (d' := d - 1) (As := [_, _]) (ci := 9) dL_law_860 ok_X9_holds kw_753 rfl rfl (Of.o (by assumption)) (by omega) rfl (Nat.le_of_ble_eq_true rfl) (p_holds (d - 1) (by omega) n ok mem hU hG hRI a1 a2 r1 r2) hnf (Or.inl rfl) (fun r ok1 mem1 hq => ?_)
  obtain ⟨rfl, rfl, hRE, hG1⟩ := hq
  have hov := ov_id hRE
  have hRI1 := RI_re hRI hRE
  refine pw_aload_n 2 rfl dL_law_863 rfl ?_
  refine pw_aload_n 0 rfl dL_law_864 rfl ?_
  refine pw_iload_n 3 rfl dL_law_865 rfl ?_
  refine pw_iconst dL_law_866 ?_
  refine pw_iadd dL_law_867 ?_
  refine pw_sld rfl dL_law_868 (by omega) (show i + 1 < ((L : Nat) : Int) by omega) ?_
  rw [h1]
  refine pw_aload_n 0 rfl dL_law_869 rfl ?_
  refine pw_iload_n 3 rfl dL_law_870 rfl ?_
  refine pw_iconst dL_law_871 ?_
  refine pw_iadd dL_law_872 ?_
  refine pw_sld rfl dL_law_873 (by omega) (show i + 2 < ((L : Nat) : Int) by omega) ?_
  rw [h2]
  refine pw_callV (d' := d - 1) (As := [_, _]) (ci := 10) dL_law_874 ok_X10_holds kw_1431 rfl rfl (Of.o (by assumption)) (by omega) rfl (Nat.le_of_ble_eq_true rfl) (r_holds (d - 1) (by omega) n ok mem1 hRU a1 a2 r1 r2 (fun c c1 c2 => (hRI1.1 c c1 c2).ok) (fun c c1 c2 => (hRI1.1 c c1 c2).2.2.1.1) hRI1.2.2.2.1 (by have := hRI1.2.2.1; omega)) hnf (Or.inl rfl) (fun r ok2 mem2 hq => ?_)
  obtain ⟨rfl, rfl, rfl⟩ := hq
  have hF : rHolds mem1 a1 a2 0 = pOv (rHolds mem a1 a2 0) mem1 := by
    have h9 := rHolds_ov mem mem1 a1 a2 0
    rw [hov] at h9; exact h9
  rw [hF]
  exact pw_eqx 1800 (by decide) dL_law_877 (KK ok _ (INV_ov hU hRU hG1 (RI_holds hRI a1 a2)))
set_option maxHeartbeats 4000000 in
set_option maxRecDepth 100000 in
theorem lc_may (nm : String) (L : Nat) (xs : Nat → Int) (d nf n : Nat) (hd : 8 ≤ d) (Q : pQt) (i : Int) (hi : 0 ≤ i ∧ i + 7 ≤ L) (ok : pO) (mem : pM) (hV : INV n ok mem) (hnf : n ≤ nf) (a1 a2 : Int) (h1 : mX (miL nm L xs) (i + 1).toNat = a1) (r1 : -2147483648 ≤ a1 ∧ a1 ≤ 2147483647) (h2 : mX (miL nm L xs) (i + 2).toNat = a2) (r2 : -2147483648 ≤ a2 ∧ a2 ≤ 2147483647) (KK : ∀ ok' mem', INV n ok' mem' → PW (miL nm L xs) d nf 0 Q 1800 [(0, vr 1003), (1, vr 1), (2, vr 88), (3, vi i)] [] n ok' mem') : PW (miL nm L xs) d nf 0 Q 882 [(0, vr 1003), (1, vr 1), (2, vr 88), (3, vi i)] [] n ok mem := by
  obtain ⟨hU, hRU, hG, hRI⟩ := hV
  have hP9 := hU.1
  have hR9 := hRU.1
  have hn133 := hU.2.2.2.2.2.2.2.2.2.2
  have hn4 := hU.2.2.1.1
  have hn88 := hRU.1.1.2.1
  refine pw_aload_n 1 rfl dL_law_882 rfl ?_
  refine pw_aload_n 0 rfl dL_law_883 rfl ?_
  refine pw_iload_n 3 rfl dL_law_884 rfl ?_
  refine pw_iconst dL_law_885 ?_
  refine pw_iadd dL_law_886 ?_
  refine pw_sld rfl dL_law_887 (by omega) (show i + 1 < ((L : Nat) : Int) by omega) ?_
  rw [h1]
  refine pw_aload_n 0 rfl dL_law_888 rfl ?_
  refine pw_iload_n 3 rfl dL_law_889 rfl ?_
  refine pw_iconst dL_law_890 ?_
  refine pw_iadd dL_law_891 ?_
  refine pw_sld rfl dL_law_892 (by omega) (show i + 2 < ((L : Nat) : Int) by omega) ?_
  rw [h2]
  refine pw_callV (d' := d - 1) (As := [_, _]) (ci := 9) dL_law_893 ok_X9_may kw_758 rfl rfl (Of.o (by assumption)) (by omega) rfl (Nat.le_of_ble_eq_true rfl) (p_may (d - 1) (by omega) n ok mem hU hG hRI a1 a2 r1 r2) hnf (Or.inl rfl) (fun r ok1 mem1 hq => ?_)
  obtain ⟨rfl, rfl, hRE, hG1⟩ := hq
  have hov := ov_id hRE
  have hRI1 := RI_re hRI hRE
  refine pw_aload_n 2 rfl dL_law_896 rfl ?_
  refine pw_aload_n 0 rfl dL_law_897 rfl ?_
  refine pw_iload_n 3 rfl dL_law_898 rfl ?_
  refine pw_iconst dL_law_899 ?_
  refine pw_iadd dL_law_900 ?_
  refine pw_sld rfl dL_law_901 (by omega) (show i + 1 < ((L : Nat) : Int) by omega) ?_
  rw [h1]
  refine pw_aload_n 0 rfl dL_law_902 rfl ?_
  refine pw_iload_n 3 rfl dL_law_903 rfl ?_
  refine pw_iconst dL_law_904 ?_
  refine pw_iadd dL_law_905 ?_
  refine pw_sld rfl dL_law_906 (by omega) (show i + 2 < ((L : Nat) : Int) by omega) ?_
  rw [h2]
  refine pw_callV (d' := d - 1) (As := [_, _]) (ci := 10) dL_law_907 ok_X10_may kw_1435 rfl rfl (Of.o (by assumption)) (by omega) rfl (Nat.le_of_ble_eq_true rfl) (r_may (d - 1) (by omega) n ok mem1 hRU a1 a2 r1 r2 (fun c c1 c2 => (hRI1.1 c c1 c2).ok)) hnf (Or.inl rfl) (fun r ok2 mem2 hq => ?_)
  obtain ⟨z9, rfl, rfl, rfl⟩ := hq
  have hF : rMay (wr mem1 88 19 0) a1 a2 z9 = pOv (rMay (wr mem 88 19 0) a1 a2 z9) mem1 := by
    rw [t0_ov hov]; exact rMay_ov _ _ _ _ _
  have hz9 : (pOv (rMay (wr mem 88 19 0) a1 a2 z9) mem1).1 = (rMay (wr mem 88 19 0) a1 a2 0).1 := may_z _ _ _ z9
  rw [hF, hz9]
  exact pw_eqx 1800 (by decide) dL_law_910 (KK ok _ (INV_ov hU hRU (hG1 z9) (RI_may (RI_t0 hRI) (wr_s _ _ _ _) a1 a2 z9)))
set_option maxHeartbeats 4000000 in
set_option maxRecDepth 100000 in
theorem lc_barredBy (nm : String) (L : Nat) (xs : Nat → Int) (d nf n : Nat) (hd : 8 ≤ d) (Q : pQt) (i : Int) (hi : 0 ≤ i ∧ i + 7 ≤ L) (ok : pO) (mem : pM) (hV : INV n ok mem) (hnf : n ≤ nf) (a1 a2 : Int) (h1 : mX (miL nm L xs) (i + 1).toNat = a1) (r1 : -2147483648 ≤ a1 ∧ a1 ≤ 2147483647) (h2 : mX (miL nm L xs) (i + 2).toNat = a2) (r2 : -2147483648 ≤ a2 ∧ a2 ≤ 2147483647) (KK : ∀ ok' mem', INV n ok' mem' → PW (miL nm L xs) d nf 0 Q 1800 [(0, vr 1003), (1, vr 1), (2, vr 88), (3, vi i)] [] n ok' mem') : PW (miL nm L xs) d nf 0 Q 915 [(0, vr 1003), (1, vr 1), (2, vr 88), (3, vi i)] [] n ok mem := by
  obtain ⟨hU, hRU, hG, hRI⟩ := hV
  have hP9 := hU.1
  have hR9 := hRU.1
  have hn133 := hU.2.2.2.2.2.2.2.2.2.2
  have hn4 := hU.2.2.1.1
  have hn88 := hRU.1.1.2.1
  refine pw_aload_n 1 rfl dL_law_915 rfl ?_
  refine pw_aload_n 0 rfl dL_law_916 rfl ?_
  refine pw_iload_n 3 rfl dL_law_917 rfl ?_
  refine pw_iconst dL_law_918 ?_
  refine pw_iadd dL_law_919 ?_
  refine pw_sld rfl dL_law_920 (by omega) (show i + 1 < ((L : Nat) : Int) by omega) ?_
  rw [h1]
  refine pw_aload_n 0 rfl dL_law_921 rfl ?_
  refine pw_iload_n 3 rfl dL_law_922 rfl ?_
  refine pw_iconst dL_law_923 ?_
  refine pw_iadd dL_law_924 ?_
  refine pw_sld rfl dL_law_925 (by omega) (show i + 2 < ((L : Nat) : Int) by omega) ?_
  rw [h2]
  refine pw_callV (d' := d - 1) (As := [_, _]) (ci := 9) dL_law_926 ok_X9_barredBy kw_772 rfl rfl (Of.o (by assumption)) (by omega) rfl (Nat.le_of_ble_eq_true rfl) (p_barredBy (d - 1) (by omega) n ok mem hU hG hRI a1 a2 r1 r2) hnf (Or.inl rfl) (fun r ok1 mem1 hq => ?_)
  obtain ⟨rfl, rfl, hRE, hG1⟩ := hq
  have hov := ov_id hRE
  have hRI1 := RI_re hRI hRE
  refine pw_aload_n 2 rfl dL_law_929 rfl ?_
  refine pw_aload_n 0 rfl dL_law_930 rfl ?_
  refine pw_iload_n 3 rfl dL_law_931 rfl ?_
  refine pw_iconst dL_law_932 ?_
  refine pw_iadd dL_law_933 ?_
  refine pw_sld rfl dL_law_934 (by omega) (show i + 1 < ((L : Nat) : Int) by omega) ?_
  rw [h1]
  refine pw_aload_n 0 rfl dL_law_935 rfl ?_
  refine pw_iload_n 3 rfl dL_law_936 rfl ?_
  refine pw_iconst dL_law_937 ?_
  refine pw_iadd dL_law_938 ?_
  refine pw_sld rfl dL_law_939 (by omega) (show i + 2 < ((L : Nat) : Int) by omega) ?_
  rw [h2]
  refine pw_callV (d' := d - 1) (As := [_, _]) (ci := 10) dL_law_940 ok_X10_barredBy kw_1440 rfl rfl (Of.o (by assumption)) (by omega) rfl (Nat.le_of_ble_eq_true rfl) (r_barredBy (d - 1) (by omega) n ok mem1 hRU a1 a2 r1 r2 (fun c c1 c2 => (hRI1.1 c c1 c2).ok)) hnf (Or.inl rfl) (fun r ok2 mem2 hq => ?_)
  obtain ⟨z9, rfl, rfl, rfl⟩ := hq
  have hF : rBarred (wr mem1 88 19 0) a1 a2 z9 = pOv (rBarred (wr mem 88 19 0) a1 a2 z9) mem1 := by
    rw [t0_ov hov]; exact rBarred_ov _ _ _ _ _
  have hz9 : (pOv (rBarred (wr mem 88 19 0) a1 a2 z9) mem1).1 = (rBarred (wr mem 88 19 0) a1 a2 0).1 := barred_z _ _ _ z9
  rw [hF, hz9]
  exact pw_eqx 1800 (by decide) dL_law_943 (KK ok _ (INV_ov hU hRU (hG1 z9) (RI_barred (RI_t0 hRI) (wr_s _ _ _ _) a1 a2 z9)))
set_option maxHeartbeats 4000000 in
set_option maxRecDepth 100000 in
theorem lc_isOpen (nm : String) (L : Nat) (xs : Nat → Int) (d nf n : Nat) (hd : 8 ≤ d) (Q : pQt) (i : Int) (hi : 0 ≤ i ∧ i + 7 ≤ L) (ok : pO) (mem : pM) (hV : INV n ok mem) (hnf : n ≤ nf) (a1 : Int) (h1 : mX (miL nm L xs) (i + 1).toNat = a1) (r1 : -2147483648 ≤ a1 ∧ a1 ≤ 2147483647) (KK : ∀ ok' mem', INV n ok' mem' → PW (miL nm L xs) d nf 0 Q 1800 [(0, vr 1003), (1, vr 1), (2, vr 88), (3, vi i)] [] n ok' mem') : PW (miL nm L xs) d nf 0 Q 948 [(0, vr 1003), (1, vr 1), (2, vr 88), (3, vi i)] [] n ok mem := by
  obtain ⟨hU, hRU, hG, hRI⟩ := hV
  have hP9 := hU.1
  have hR9 := hRU.1
  have hn133 := hU.2.2.2.2.2.2.2.2.2.2
  have hn4 := hU.2.2.1.1
  have hn88 := hRU.1.1.2.1
  refine pw_aload_n 1 rfl dL_law_948 rfl ?_
  refine pw_aload_n 0 rfl dL_law_949 rfl ?_
  refine pw_iload_n 3 rfl dL_law_950 rfl ?_
  refine pw_iconst dL_law_951 ?_
  refine pw_iadd dL_law_952 ?_
  refine pw_sld rfl dL_law_953 (by omega) (show i + 1 < ((L : Nat) : Int) by omega) ?_
  rw [h1]
  refine pw_callV (d' := d - 1) (As := [_]) (ci := 9) dL_law_954 ok_X9_isOpen kw_776 rfl rfl (Of.o (by assumption)) (by omega) rfl (Nat.le_of_ble_eq_true rfl) (p_isOpen (d - 1) (by omega) n ok mem hU hG hRI a1 r1) hnf (Or.inl rfl) (fun r ok1 mem1 hq => ?_)
  obtain ⟨rfl, rfl, hRE, hG1⟩ := hq
  have hov := ov_id hRE
  have hRI1 := RI_re hRI hRE
  refine pw_aload_n 2 rfl dL_law_957 rfl ?_
  refine pw_aload_n 0 rfl dL_law_958 rfl ?_
  refine pw_iload_n 3 rfl dL_law_959 rfl ?_
  refine pw_iconst dL_law_960 ?_
  refine pw_iadd dL_law_961 ?_
  refine pw_sld rfl dL_law_962 (by omega) (show i + 1 < ((L : Nat) : Int) by omega) ?_
  rw [h1]
  refine pw_callV (d' := d - 1) (As := [_]) (ci := 10) dL_law_963 ok_X10_isOpen kw_1444 rfl rfl (Of.o (by assumption)) (by omega) rfl (Nat.le_of_ble_eq_true rfl) (r_isOpen (d - 1) (by omega) n ok mem1 hRU a1 r1 (fun c c1 c2 => (hRI1.1 c c1 c2).ok)) hnf (Or.inl rfl) (fun r ok2 mem2 hq => ?_)
  obtain ⟨z9, rfl, rfl, rfl⟩ := hq
  have hF : rIsOpen (wr mem1 88 19 0) a1 z9 = pOv (rIsOpen (wr mem 88 19 0) a1 z9) mem1 := by
    rw [t0_ov hov]; exact rIsOpen_ov _ _ _ _
  have hz9 : (pOv (rIsOpen (wr mem 88 19 0) a1 z9) mem1).1 = (rIsOpen (wr mem 88 19 0) a1 0).1 := isOpen_z _ _ z9
  rw [hF, hz9]
  exact pw_eqx 1800 (by decide) dL_law_966 (KK ok _ (INV_ov hU hRU (hG1 z9) (RI_isOpen (RI_t0 hRI) (wr_s _ _ _ _) a1 z9)))
set_option maxHeartbeats 4000000 in
set_option maxRecDepth 100000 in
theorem lc_product (nm : String) (L : Nat) (xs : Nat → Int) (d nf n : Nat) (hd : 8 ≤ d) (Q : pQt) (i : Int) (hi : 0 ≤ i ∧ i + 7 ≤ L) (ok : pO) (mem : pM) (hV : INV n ok mem) (hnf : n ≤ nf) (a1 : Int) (h1 : mX (miL nm L xs) (i + 1).toNat = a1) (r1 : -2147483648 ≤ a1 ∧ a1 ≤ 2147483647) (KK : ∀ ok' mem', INV n ok' mem' → PW (miL nm L xs) d nf 0 Q 1800 [(0, vr 1003), (1, vr 1), (2, vr 88), (3, vi i)] [] n ok' mem') : PW (miL nm L xs) d nf 0 Q 971 [(0, vr 1003), (1, vr 1), (2, vr 88), (3, vi i)] [] n ok mem := by
  obtain ⟨hU, hRU, hG, hRI⟩ := hV
  have hP9 := hU.1
  have hR9 := hRU.1
  have hn133 := hU.2.2.2.2.2.2.2.2.2.2
  have hn4 := hU.2.2.1.1
  have hn88 := hRU.1.1.2.1
  refine pw_aload_n 1 rfl dL_law_971 rfl ?_
  refine pw_aload_n 0 rfl dL_law_972 rfl ?_
  refine pw_iload_n 3 rfl dL_law_973 rfl ?_
  refine pw_iconst dL_law_974 ?_
  refine pw_iadd dL_law_975 ?_
  refine pw_sld rfl dL_law_976 (by omega) (show i + 1 < ((L : Nat) : Int) by omega) ?_
  rw [h1]
  refine pw_callV (d' := d - 1) (As := [_]) (ci := 9) dL_law_977 ok_X9_product kw_781 rfl rfl (Of.o (by assumption)) (by omega) rfl (Nat.le_of_ble_eq_true rfl) (p_product (d - 1) (by omega) n ok mem hU hG hRI a1 r1) hnf (Or.inl rfl) (fun r ok1 mem1 hq => ?_)
  obtain ⟨rfl, rfl, hRE, hG1⟩ := hq
  have hov := ov_id hRE
  have hRI1 := RI_re hRI hRE
  refine pw_aload_n 2 rfl dL_law_980 rfl ?_
  refine pw_aload_n 0 rfl dL_law_981 rfl ?_
  refine pw_iload_n 3 rfl dL_law_982 rfl ?_
  refine pw_iconst dL_law_983 ?_
  refine pw_iadd dL_law_984 ?_
  refine pw_sld rfl dL_law_985 (by omega) (show i + 1 < ((L : Nat) : Int) by omega) ?_
  rw [h1]
  refine pw_callV (d' := d - 1) (As := [_]) (ci := 10) dL_law_986 ok_X10_product kw_1448 rfl rfl (Of.o (by assumption)) (by omega) rfl (Nat.le_of_ble_eq_true rfl) (r_product (d - 1) (by omega) n ok mem1 hRU a1 r1) hnf (Or.inl rfl) (fun r ok2 mem2 hq => ?_)
  obtain ⟨rfl, rfl, rfl⟩ := hq
  have hF : rProduct mem1 a1 = pOv (rProduct mem a1) mem1 := by
    have h9 := rProduct_ov mem mem1 a1
    rw [hov] at h9; exact h9
  rw [hF]
  exact pw_eqx 1800 (by decide) dL_law_989 (KK ok _ (INV_ov hU hRU hG1 (RI_product hRI a1)))
set_option maxHeartbeats 4000000 in
set_option maxRecDepth 100000 in
theorem lc_state (nm : String) (L : Nat) (xs : Nat → Int) (d nf n : Nat) (hd : 8 ≤ d) (Q : pQt) (i : Int) (hi : 0 ≤ i ∧ i + 7 ≤ L) (ok : pO) (mem : pM) (hV : INV n ok mem) (hnf : n ≤ nf) (a1 : Int) (h1 : mX (miL nm L xs) (i + 1).toNat = a1) (r1 : -2147483648 ≤ a1 ∧ a1 ≤ 2147483647) (KK : ∀ ok' mem', INV n ok' mem' → PW (miL nm L xs) d nf 0 Q 1800 [(0, vr 1003), (1, vr 1), (2, vr 88), (3, vi i)] [] n ok' mem') : PW (miL nm L xs) d nf 0 Q 994 [(0, vr 1003), (1, vr 1), (2, vr 88), (3, vi i)] [] n ok mem := by
  obtain ⟨hU, hRU, hG, hRI⟩ := hV
  have hP9 := hU.1
  have hR9 := hRU.1
  have hn133 := hU.2.2.2.2.2.2.2.2.2.2
  have hn4 := hU.2.2.1.1
  have hn88 := hRU.1.1.2.1
  refine pw_aload_n 1 rfl dL_law_994 rfl ?_
  refine pw_aload_n 0 rfl dL_law_995 rfl ?_
  refine pw_iload_n 3 rfl dL_law_996 rfl ?_
  refine pw_iconst dL_law_997 ?_
  refine pw_iadd dL_law_998 ?_
  refine pw_sld rfl dL_law_999 (by omega) (show i + 1 < ((L : Nat) : Int) by omega) ?_
  rw [h1]
  refine pw_callV (d' := d - 1) (As := [_]) (ci := 9) dL_law_1000 ok_X9_state kw_785 rfl rfl (Of.o (by assumption)) (by omega) rfl (Nat.le_of_ble_eq_true rfl) (p_state (d - 1) (by omega) n ok mem hU hG hRI a1 r1) hnf (Or.inl rfl) (fun r ok1 mem1 hq => ?_)
  obtain ⟨rfl, rfl, hRE, hG1⟩ := hq
  have hov := ov_id hRE
  have hRI1 := RI_re hRI hRE
  refine pw_aload_n 2 rfl dL_law_1003 rfl ?_
  refine pw_aload_n 0 rfl dL_law_1004 rfl ?_
  refine pw_iload_n 3 rfl dL_law_1005 rfl ?_
  refine pw_iconst dL_law_1006 ?_
  refine pw_iadd dL_law_1007 ?_
  refine pw_sld rfl dL_law_1008 (by omega) (show i + 1 < ((L : Nat) : Int) by omega) ?_
  rw [h1]
  refine pw_callV (d' := d - 1) (As := [_]) (ci := 10) dL_law_1009 ok_X10_state kw_1452 rfl rfl (Of.o (by assumption)) (by omega) rfl (Nat.le_of_ble_eq_true rfl) (r_state (d - 1) (by omega) n ok mem1 hRU a1 r1) hnf (Or.inl rfl) (fun r ok2 mem2 hq => ?_)
  obtain ⟨rfl, rfl, rfl⟩ := hq
  have hF : rState mem1 a1 = pOv (rState mem a1) mem1 := by
    have h9 := rState_ov mem mem1 a1
    rw [hov] at h9; exact h9
  rw [hF]
  exact pw_eqx 1800 (by decide) dL_law_1012 (KK ok _ (INV_ov hU hRU hG1 (RI_state hRI a1)))
set_option maxHeartbeats 4000000 in
set_option maxRecDepth 100000 in
theorem lc_ofNumber (nm : String) (L : Nat) (xs : Nat → Int) (d nf n : Nat) (hd : 8 ≤ d) (Q : pQt) (i : Int) (hi : 0 ≤ i ∧ i + 7 ≤ L) (ok : pO) (mem : pM) (hV : INV n ok mem) (hnf : n ≤ nf) (a1 a2 : Int) (h1 : mX (miL nm L xs) (i + 1).toNat = a1) (r1 : -2147483648 ≤ a1 ∧ a1 ≤ 2147483647) (h2 : mX (miL nm L xs) (i + 2).toNat = a2) (r2 : -2147483648 ≤ a2 ∧ a2 ≤ 2147483647) (KK : ∀ ok' mem', INV n ok' mem' → PW (miL nm L xs) d nf 0 Q 1800 [(0, vr 1003), (1, vr 1), (2, vr 88), (3, vi i)] [] n ok' mem') : PW (miL nm L xs) d nf 0 Q 1017 [(0, vr 1003), (1, vr 1), (2, vr 88), (3, vi i)] [] n ok mem := by
  obtain ⟨hU, hRU, hG, hRI⟩ := hV
  have hP9 := hU.1
  have hR9 := hRU.1
  have hn133 := hU.2.2.2.2.2.2.2.2.2.2
  have hn4 := hU.2.2.1.1
  have hn88 := hRU.1.1.2.1
  refine pw_aload_n 1 rfl dL_law_1017 rfl ?_
  refine pw_aload_n 0 rfl dL_law_1018 rfl ?_
  refine pw_iload_n 3 rfl dL_law_1019 rfl ?_
  refine pw_iconst dL_law_1020 ?_
  refine pw_iadd dL_law_1021 ?_
  refine pw_sld rfl dL_law_1022 (by omega) (show i + 1 < ((L : Nat) : Int) by omega) ?_
  rw [h1]
  refine pw_aload_n 0 rfl dL_law_1023 rfl ?_
  refine pw_iload_n 3 rfl dL_law_1024 rfl ?_
  refine pw_iconst dL_law_1025 ?_
  refine pw_iadd dL_law_1026 ?_
  refine pw_sld rfl dL_law_1027 (by omega) (show i + 2 < ((L : Nat) : Int) by omega) ?_
  rw [h2]
  refine pw_callV (d' := d - 1) (As := [_, _]) (ci := 9) dL_law_1028 ok_X9_ofNumber kw_790 rfl rfl (Of.o (by assumption)) (by omega) rfl (Nat.le_of_ble_eq_true rfl) (p_ofNumber (d - 1) (by omega) n ok mem hU hG hRI a1 a2 r1 r2) hnf (Or.inl rfl) (fun r ok1 mem1 hq => ?_)
  obtain ⟨rfl, rfl, hRE, hG1⟩ := hq
  have hov := ov_id hRE
  have hRI1 := RI_re hRI hRE
  refine pw_aload_n 2 rfl dL_law_1031 rfl ?_
  refine pw_aload_n 0 rfl dL_law_1032 rfl ?_
  refine pw_iload_n 3 rfl dL_law_1033 rfl ?_
  refine pw_iconst dL_law_1034 ?_
  refine pw_iadd dL_law_1035 ?_
  refine pw_sld rfl dL_law_1036 (by omega) (show i + 1 < ((L : Nat) : Int) by omega) ?_
  rw [h1]
  refine pw_aload_n 0 rfl dL_law_1037 rfl ?_
  refine pw_iload_n 3 rfl dL_law_1038 rfl ?_
  refine pw_iconst dL_law_1039 ?_
  refine pw_iadd dL_law_1040 ?_
  refine pw_sld rfl dL_law_1041 (by omega) (show i + 2 < ((L : Nat) : Int) by omega) ?_
  rw [h2]
  refine pw_callV (d' := d - 1) (As := [_, _]) (ci := 10) dL_law_1042 ok_X10_ofNumber kw_1456 rfl rfl (Of.o (by assumption)) (by omega) rfl (Nat.le_of_ble_eq_true rfl) (r_ofNumber (d - 1) (by omega) n ok mem1 hRU a1 a2 r1 r2 (fun c c1 c2 => (hRI1.1 c c1 c2).ok)) hnf (Or.inl rfl) (fun r ok2 mem2 hq => ?_)
  obtain ⟨rfl, rfl, rfl⟩ := hq
  have hF : rOfN mem1 a1 a2 = pOv (rOfN mem a1 a2) mem1 := by
    have h9 := rOfN_ov mem mem1 a1 a2
    rw [hov] at h9; exact h9
  rw [hF]
  exact pw_eqx 1800 (by decide) dL_law_1045 (KK ok _ (INV_ov hU hRU hG1 (RI_ofN hRI a1 a2)))
set_option maxHeartbeats 4000000 in
set_option maxRecDepth 100000 in
theorem lc_place (nm : String) (L : Nat) (xs : Nat → Int) (d nf n : Nat) (hd : 8 ≤ d) (Q : pQt) (i : Int) (hi : 0 ≤ i ∧ i + 7 ≤ L) (ok : pO) (mem : pM) (hV : INV n ok mem) (hnf : n ≤ nf) (a1 a2 a3 : Int) (h1 : mX (miL nm L xs) (i + 1).toNat = a1) (r1 : -2147483648 ≤ a1 ∧ a1 ≤ 2147483647) (h2 : mX (miL nm L xs) (i + 2).toNat = a2) (r2 : -2147483648 ≤ a2 ∧ a2 ≤ 2147483647) (h3 : mX (miL nm L xs) (i + 3).toNat = a3) (r3 : -2147483648 ≤ a3 ∧ a3 ≤ 2147483647) (KK : ∀ ok' mem', INV n ok' mem' → PW (miL nm L xs) d nf 0 Q 1800 [(0, vr 1003), (1, vr 1), (2, vr 88), (3, vi i)] [] n ok' mem') : PW (miL nm L xs) d nf 0 Q 1050 [(0, vr 1003), (1, vr 1), (2, vr 88), (3, vi i)] [] n ok mem := by
  obtain ⟨hU, hRU, hG, hRI⟩ := hV
  have hP9 := hU.1
  have hR9 := hRU.1
  have hn133 := hU.2.2.2.2.2.2.2.2.2.2
  have hn4 := hU.2.2.1.1
  have hn88 := hRU.1.1.2.1
  refine pw_aload_n 1 rfl dL_law_1050 rfl ?_
  refine pw_aload_n 0 rfl dL_law_1051 rfl ?_
  refine pw_iload_n 3 rfl dL_law_1052 rfl ?_
  refine pw_iconst dL_law_1053 ?_
  refine pw_iadd dL_law_1054 ?_
  refine pw_sld rfl dL_law_1055 (by omega) (show i + 1 < ((L : Nat) : Int) by omega) ?_
  rw [h1]
  refine pw_aload_n 0 rfl dL_law_1056 rfl ?_
  refine pw_iload_n 3 rfl dL_law_1057 rfl ?_
  refine pw_iconst dL_law_1058 ?_
  refine pw_iadd dL_law_1059 ?_
  refine pw_sld rfl dL_law_1060 (by omega) (show i + 2 < ((L : Nat) : Int) by omega) ?_
  rw [h2]
  refine pw_aload_n 0 rfl dL_law_1061 rfl ?_
  refine pw_iload_n 3 rfl dL_law_1062 rfl ?_
  refine pw_iconst dL_law_1063 ?_
  refine pw_iadd dL_law_1064 ?_
  refine pw_sld rfl dL_law_1065 (by omega) (show i + 3 < ((L : Nat) : Int) by omega) ?_
  rw [h3]
  refine pw_callV (d' := d - 1) (As := [_, _, _]) (ci := 9) dL_law_1066 ok_X9_place kw_795 rfl rfl (Of.o (by assumption)) (by omega) rfl (Nat.le_of_ble_eq_true rfl) (p_place (d - 1) (by omega) n ok mem hU hG hRI a1 a2 a3 r1 r2 r3) hnf (Or.inl rfl) (fun r ok1 mem1 hq => ?_)
  obtain ⟨rfl, rfl, hRE, hG1⟩ := hq
  have hov := ov_id hRE
  have hRI1 := RI_re hRI hRE
  refine pw_aload_n 2 rfl dL_law_1069 rfl ?_
  refine pw_aload_n 0 rfl dL_law_1070 rfl ?_
  refine pw_iload_n 3 rfl dL_law_1071 rfl ?_
  refine pw_iconst dL_law_1072 ?_
  refine pw_iadd dL_law_1073 ?_
  refine pw_sld rfl dL_law_1074 (by omega) (show i + 1 < ((L : Nat) : Int) by omega) ?_
  rw [h1]
  refine pw_aload_n 0 rfl dL_law_1075 rfl ?_
  refine pw_iload_n 3 rfl dL_law_1076 rfl ?_
  refine pw_iconst dL_law_1077 ?_
  refine pw_iadd dL_law_1078 ?_
  refine pw_sld rfl dL_law_1079 (by omega) (show i + 2 < ((L : Nat) : Int) by omega) ?_
  rw [h2]
  refine pw_aload_n 0 rfl dL_law_1080 rfl ?_
  refine pw_iload_n 3 rfl dL_law_1081 rfl ?_
  refine pw_iconst dL_law_1082 ?_
  refine pw_iadd dL_law_1083 ?_
  refine pw_sld rfl dL_law_1084 (by omega) (show i + 3 < ((L : Nat) : Int) by omega) ?_
  rw [h3]
  refine pw_callV (d' := d - 1) (As := [_, _, _]) (ci := 10) dL_law_1085 ok_X10_place kw_1460 rfl rfl (Of.o (by assumption)) (by omega) rfl (Nat.le_of_ble_eq_true rfl) (r_place (d - 1) (by omega) n ok mem1 hRU a1 a2 a3 r1 r2 r3 (fun c s c1 c2 s1 s2 h => (hRI1.1 c c1 c2).ok.1.2.2 s s1 s2 (aComes_kind h))) hnf (Or.inl rfl) (fun r ok2 mem2 hq => ?_)
  obtain ⟨rfl, rfl, rfl⟩ := hq
  have hF : rPlace mem1 a1 a2 a3 = pOv (rPlace mem a1 a2 a3) mem1 := by
    have h9 := rPlace_ov mem mem1 a1 a2 a3
    rw [hov] at h9; exact h9
  rw [hF]
  exact pw_eqx 1800 (by decide) dL_law_1088 (KK ok _ (INV_ov hU hRU hG1 (RI_place hRI a1 a2 a3)))
set_option maxHeartbeats 4000000 in
set_option maxRecDepth 100000 in
theorem lc_move (nm : String) (L : Nat) (xs : Nat → Int) (d nf n : Nat) (hd : 8 ≤ d) (Q : pQt) (i : Int) (hi : 0 ≤ i ∧ i + 7 ≤ L) (ok : pO) (mem : pM) (hV : INV n ok mem) (hnf : n ≤ nf) (a1 a2 : Int) (h1 : mX (miL nm L xs) (i + 1).toNat = a1) (r1 : -2147483648 ≤ a1 ∧ a1 ≤ 2147483647) (h2 : mX (miL nm L xs) (i + 2).toNat = a2) (r2 : -2147483648 ≤ a2 ∧ a2 ≤ 2147483647) (KK : ∀ ok' mem', INV n ok' mem' → PW (miL nm L xs) d nf 0 Q 1800 [(0, vr 1003), (1, vr 1), (2, vr 88), (3, vi i)] [] n ok' mem') : PW (miL nm L xs) d nf 0 Q 1093 [(0, vr 1003), (1, vr 1), (2, vr 88), (3, vi i)] [] n ok mem := by
  obtain ⟨hU, hRU, hG, hRI⟩ := hV
  have hP9 := hU.1
  have hR9 := hRU.1
  have hn133 := hU.2.2.2.2.2.2.2.2.2.2
  have hn4 := hU.2.2.1.1
  have hn88 := hRU.1.1.2.1
  refine pw_aload_n 1 rfl dL_law_1093 rfl ?_
  refine pw_aload_n 0 rfl dL_law_1094 rfl ?_
  refine pw_iload_n 3 rfl dL_law_1095 rfl ?_
  refine pw_iconst dL_law_1096 ?_
  refine pw_iadd dL_law_1097 ?_
  refine pw_sld rfl dL_law_1098 (by omega) (show i + 1 < ((L : Nat) : Int) by omega) ?_
  rw [h1]
  refine pw_aload_n 0 rfl dL_law_1099 rfl ?_
  refine pw_iload_n 3 rfl dL_law_1100 rfl ?_
  refine pw_iconst dL_law_1101 ?_
  refine pw_iadd dL_law_1102 ?_
  refine pw_sld rfl dL_law_1103 (by omega) (show i + 2 < ((L : Nat) : Int) by omega) ?_
  rw [h2]
  refine pw_callV (d' := d - 1) (As := [_, _]) (ci := 9) dL_law_1104 ok_X9_move kw_799 rfl rfl (Of.o (by assumption)) (by omega) rfl (Nat.le_of_ble_eq_true rfl) (p_move (d - 1) (by omega) n ok mem hU hG hRI a1 a2 r1 r2) hnf (Or.inl rfl) (fun r ok1 mem1 hq => ?_)
  obtain ⟨rfl, hRE, hq1⟩ := hq
  obtain ⟨x9, hr9⟩ : ∃ x9 : Int, r = some (vi x9) := by
    rcases hq1 with y | y | y
    · exact ⟨_, y.2.1⟩
    · exact ⟨_, y.2.2.1⟩
    · exact ⟨_, y.2.2.1⟩
  subst hr9
  have hov := ov_id hRE
  have hRI1 := RI_re hRI hRE
  have hR0 := RI_t0 hRI
  have h190 : wr mem 88 19 0 88 19 = 0 := wr_s _ _ _ _
  refine pw_aload_n 2 rfl dL_law_1107 rfl ?_
  refine pw_aload_n 0 rfl dL_law_1108 rfl ?_
  refine pw_iload_n 3 rfl dL_law_1109 rfl ?_
  refine pw_iconst dL_law_1110 ?_
  refine pw_iadd dL_law_1111 ?_
  refine pw_sld rfl dL_law_1112 (by omega) (show i + 1 < ((L : Nat) : Int) by omega) ?_
  rw [h1]
  refine pw_aload_n 0 rfl dL_law_1113 rfl ?_
  refine pw_iload_n 3 rfl dL_law_1114 rfl ?_
  refine pw_iconst dL_law_1115 ?_
  refine pw_iadd dL_law_1116 ?_
  refine pw_sld rfl dL_law_1117 (by omega) (show i + 2 < ((L : Nat) : Int) by omega) ?_
  rw [h2]
  refine pw_callV (d' := d - 1) (As := [_, _]) (ci := 10) dL_law_1118 ok_X10_move kw_1464 rfl rfl (Of.o (by assumption)) (by omega) rfl (Nat.le_of_ble_eq_true rfl) (r_move (d - 1) (by omega) n ok mem1 hRU a1 a2 r1 r2 (fun c c1 c2 => (hRI1.1 c c1 c2).ok) (fun c c1 c2 => ⟨(hRI1.2.1 c c1 c2).1, (hRI1.2.1 c c1 c2).2.1⟩)) hnf (Or.inl rfl) (fun r ok2 mem2 hq => ?_)
  obtain ⟨rfl, hq2⟩ := hq
  rw [t0_ov hov] at hq2
  rcases hq1 with y1 | y1 | y1
  · obtain ⟨n1, e1, G1⟩ := y1
    simp only [Option.some.injEq, Sum.inl.injEq] at e1
    subst e1
    rcases hq2 with y2 | y2 | y2
    · obtain ⟨-, rfl, rfl⟩ := y2
      exact pw_eqx 1800 (by decide) dL_law_1121 (KK ok _ (INV_n hU hRU G1 (RI_st hR0 _) (fun a b1 b2 _ _ _ _ => by rw [wr_a _ _ _ (by omega), wr_a _ _ _ (by omega), ov_in _ _ (by omega) (by omega)]) (fun k _ => by rw [ov_wr _ _ _ _ (by omega) (by omega), ov_in _ _ (by omega) (by omega)]) (fun a ha => by rw [wr_a _ _ _ (by omega), ov_out _ _ ha])))
    · exact absurd y2.1 n1
    · exact absurd y2.1 n1
  · obtain ⟨n1, n2, e1, G1⟩ := y1
    simp only [Option.some.injEq, Sum.inl.injEq] at e1
    subst e1
    rcases hq2 with y2 | y2 | y2
    · exact absurd n1 y2.1
    · obtain ⟨-, -, rfl, rfl⟩ := y2
      exact pw_eqx 1800 (by decide) dL_law_1121 (KK ok _ (INV_n hU hRU G1 (RI_st hR0 _) (fun a b1 b2 _ _ _ _ => by rw [wr_a _ _ _ (by omega), wr_a _ _ _ (by omega), ov_in _ _ (by omega) (by omega)]) (fun k _ => by rw [ov_wr _ _ _ _ (by omega) (by omega), ov_in _ _ (by omega) (by omega)]) (fun a ha => by rw [wr_a _ _ _ (by omega), ov_out _ _ ha])))
    · exact absurd y2.2.1 n2
  · obtain ⟨n1, n2, e1, G1⟩ := y1
    simp only [Option.some.injEq, Sum.inl.injEq] at e1
    subst e1
    rcases hq2 with y2 | y2 | y2
    · exact absurd n1 y2.1
    · exact absurd n2 y2.2.1
    · obtain ⟨-, -, z9, m9, rfl, h9, rfl⟩ := y2
      have hmo := mvRes_ov (wr mem 88 19 0) mem1 a1 a2
      rw [hmo.1]
      rw [hmo.2.1, hmo.2.2] at h9
      rw [hmo.2.2]
      have hP : PMv (wr mem 88 19 0) a1 a2 (wr (ov m9 (mvRes (wr mem 88 19 0) a1 a2).2.1) 88 0 (mvRes (wr mem 88 19 0) a1 a2).2.2.2.2) := ⟨z9, _, vMem_ov h9, rfl⟩
      exact pw_eqx 1800 (by decide) dL_law_1121 (KK ok _ (INV_mv hU hRU h9 (G1 _ hP) (RI_move hR0 h190 n1 n2.1 hP)))
set_option maxHeartbeats 4000000 in
set_option maxRecDepth 100000 in
theorem lc_type (nm : String) (L : Nat) (xs : Nat → Int) (d nf n : Nat) (hd : 8 ≤ d) (Q : pQt) (i : Int) (hi : 0 ≤ i ∧ i + 7 ≤ L) (ok : pO) (mem : pM) (hV : INV n ok mem) (hnf : n ≤ nf) (a1 : Int) (h1 : mX (miL nm L xs) (i + 1).toNat = a1) (r1 : -2147483648 ≤ a1 ∧ a1 ≤ 2147483647) (KK : ∀ ok' mem', INV n ok' mem' → PW (miL nm L xs) d nf 0 Q 1800 [(0, vr 1003), (1, vr 1), (2, vr 88), (3, vi i)] [] n ok' mem') : PW (miL nm L xs) d nf 0 Q 1126 [(0, vr 1003), (1, vr 1), (2, vr 88), (3, vi i)] [] n ok mem := by
  obtain ⟨hU, hRU, hG, hRI⟩ := hV
  have hP9 := hU.1
  have hR9 := hRU.1
  have hn133 := hU.2.2.2.2.2.2.2.2.2.2
  have hn4 := hU.2.2.1.1
  have hn88 := hRU.1.1.2.1
  refine pw_aload_n 1 rfl dL_law_1126 rfl ?_
  refine pw_aload_n 0 rfl dL_law_1127 rfl ?_
  refine pw_iload_n 3 rfl dL_law_1128 rfl ?_
  refine pw_iconst dL_law_1129 ?_
  refine pw_iadd dL_law_1130 ?_
  refine pw_sld rfl dL_law_1131 (by omega) (show i + 1 < ((L : Nat) : Int) by omega) ?_
  rw [h1]
  refine pw_callV (d' := d - 1) (As := [_]) (ci := 9) dL_law_1132 ok_X9_type kw_815 rfl rfl (Of.o (by assumption)) (by omega) rfl (Nat.le_of_ble_eq_true rfl) (p_type (d - 1) (by omega) n ok mem hU hG hRI a1 r1) hnf (Or.inl rfl) (fun r ok1 mem1 hq => ?_)
  obtain ⟨rfl, rfl, hRE, hG1⟩ := hq
  have hov := ov_id hRE
  have hRI1 := RI_re hRI hRE
  refine pw_aload_n 2 rfl dL_law_1135 rfl ?_
  refine pw_aload_n 0 rfl dL_law_1136 rfl ?_
  refine pw_iload_n 3 rfl dL_law_1137 rfl ?_
  refine pw_iconst dL_law_1138 ?_
  refine pw_iadd dL_law_1139 ?_
  refine pw_sld rfl dL_law_1140 (by omega) (show i + 1 < ((L : Nat) : Int) by omega) ?_
  rw [h1]
  refine pw_callV (d' := d - 1) (As := [_]) (ci := 10) dL_law_1141 ok_X10_type kw_1476 rfl rfl (Of.o (by assumption)) (by omega) rfl (Nat.le_of_ble_eq_true rfl) (r_type (d - 1) (by omega) n ok mem1 hRU a1 r1 hRI1.2.2.2.2.1.1) hnf (Or.inl rfl) (fun r ok2 mem2 hq => ?_)
  obtain ⟨rfl, rfl, rfl⟩ := hq
  have hF : rType mem1 a1 = pOv (rType mem a1) mem1 := by
    have h9 := rType_ov mem mem1 a1
    rw [hov] at h9; exact h9
  rw [hF]
  exact pw_eqx 1800 (by decide) dL_law_1144 (KK ok _ (INV_ov hU hRU hG1 (RI_type hRI a1)))
set_option maxHeartbeats 4000000 in
set_option maxRecDepth 100000 in
theorem lc_untype (nm : String) (L : Nat) (xs : Nat → Int) (d nf n : Nat) (hd : 8 ≤ d) (Q : pQt) (i : Int) (hi : 0 ≤ i ∧ i + 7 ≤ L) (ok : pO) (mem : pM) (hV : INV n ok mem) (hnf : n ≤ nf) (KK : ∀ ok' mem', INV n ok' mem' → PW (miL nm L xs) d nf 0 Q 1800 [(0, vr 1003), (1, vr 1), (2, vr 88), (3, vi i)] [] n ok' mem') : PW (miL nm L xs) d nf 0 Q 1149 [(0, vr 1003), (1, vr 1), (2, vr 88), (3, vi i)] [] n ok mem := by
  obtain ⟨hU, hRU, hG, hRI⟩ := hV
  have hP9 := hU.1
  have hR9 := hRU.1
  have hn133 := hU.2.2.2.2.2.2.2.2.2.2
  have hn4 := hU.2.2.1.1
  have hn88 := hRU.1.1.2.1
  refine pw_aload_n 1 rfl dL_law_1149 rfl ?_
  refine pw_callV (d' := d - 1) (As := []) (ci := 9) dL_law_1150 ok_X9_untype kw_819 rfl rfl (Of.o (by assumption)) (by omega) rfl (Nat.le_of_ble_eq_true rfl) (p_untype (d - 1) (by omega) n ok mem hU hG hRI  ) hnf (Or.inl rfl) (fun r ok1 mem1 hq => ?_)
  obtain ⟨rfl, rfl, hRE, hG1⟩ := hq
  have hov := ov_id hRE
  have hRI1 := RI_re hRI hRE
  refine pw_aload_n 2 rfl dL_law_1153 rfl ?_
  refine pw_callV (d' := d - 1) (As := []) (ci := 10) dL_law_1154 ok_X10_untype kw_1480 rfl rfl (Of.o (by assumption)) (by omega) rfl (Nat.le_of_ble_eq_true rfl) (r_untype (d - 1) (by omega) n ok mem1 hRU  ) hnf (Or.inl rfl) (fun r ok2 mem2 hq => ?_)
  obtain ⟨rfl, rfl, rfl⟩ := hq
  have hF : rUntype mem1 = pOv (rUntype mem) mem1 := by
    have h9 := rUntype_ov mem mem1
    rw [hov] at h9; exact h9
  rw [hF]
  exact pw_eqx 1800 (by decide) dL_law_1157 (KK ok _ (INV_ov hU hRU hG1 (RI_untype hRI)))
set_option maxHeartbeats 4000000 in
set_option maxRecDepth 100000 in
theorem lc_play (nm : String) (L : Nat) (xs : Nat → Int) (d nf n : Nat) (hd : 8 ≤ d) (Q : pQt) (i : Int) (hi : 0 ≤ i ∧ i + 7 ≤ L) (ok : pO) (mem : pM) (hV : INV n ok mem) (hnf : n ≤ nf) (a1 : Int) (h1 : mX (miL nm L xs) (i + 1).toNat = a1) (r1 : -2147483648 ≤ a1 ∧ a1 ≤ 2147483647) (KK : ∀ ok' mem', INV n ok' mem' → PW (miL nm L xs) d nf 0 Q 1800 [(0, vr 1003), (1, vr 1), (2, vr 88), (3, vi i)] [] n ok' mem') : PW (miL nm L xs) d nf 0 Q 1162 [(0, vr 1003), (1, vr 1), (2, vr 88), (3, vi i)] [] n ok mem := by
  obtain ⟨hU, hRU, hG, hRI⟩ := hV
  have hP9 := hU.1
  have hR9 := hRU.1
  have hn133 := hU.2.2.2.2.2.2.2.2.2.2
  have hn4 := hU.2.2.1.1
  have hn88 := hRU.1.1.2.1
  refine pw_aload_n 1 rfl dL_law_1162 rfl ?_
  refine pw_aload_n 0 rfl dL_law_1163 rfl ?_
  refine pw_iload_n 3 rfl dL_law_1164 rfl ?_
  refine pw_iconst dL_law_1165 ?_
  refine pw_iadd dL_law_1166 ?_
  refine pw_sld rfl dL_law_1167 (by omega) (show i + 1 < ((L : Nat) : Int) by omega) ?_
  rw [h1]
  refine pw_callV (d' := d - 1) (As := [_]) (ci := 9) dL_law_1168 ok_X9_play kw_823 rfl rfl (Of.o (by assumption)) (by omega) rfl (Nat.le_of_ble_eq_true rfl) (p_play (d - 1) (by omega) n ok mem hU hG hRI a1 r1) hnf (Or.inl rfl) (fun r ok1 mem1 hq => ?_)
  obtain ⟨rfl, hRE, hq1⟩ := hq
  obtain ⟨x9, hr9⟩ : ∃ x9 : Int, r = some (vi x9) := by
    rcases hq1 with y | y
    · exact ⟨_, y.2.1⟩
    · exact ⟨_, y.2.1⟩
  subst hr9
  have hov := ov_id hRE
  have hRI1 := RI_re hRI hRE
  have hR0 := RI_t0 hRI
  have h190 : wr mem 88 19 0 88 19 = 0 := wr_s _ _ _ _
  refine pw_aload_n 2 rfl dL_law_1171 rfl ?_
  refine pw_aload_n 0 rfl dL_law_1172 rfl ?_
  refine pw_iload_n 3 rfl dL_law_1173 rfl ?_
  refine pw_iconst dL_law_1174 ?_
  refine pw_iadd dL_law_1175 ?_
  refine pw_sld rfl dL_law_1176 (by omega) (show i + 1 < ((L : Nat) : Int) by omega) ?_
  rw [h1]
  refine pw_callV (d' := d - 1) (As := [_]) (ci := 10) dL_law_1177 ok_X10_play kw_1484 rfl rfl (Of.o (by assumption)) (by omega) rfl (Nat.le_of_ble_eq_true rfl) (r_play (d - 1) (by omega) n ok mem1 hRU a1 r1 (fun c c1 c2 => (hRI1.1 c c1 c2).ok) (fun c c1 c2 => ⟨(hRI1.2.1 c c1 c2).1, (hRI1.2.1 c c1 c2).2.1⟩) hRI1.2.2.2.2.1.1 hRI1.2.2.2.2.1.2) hnf (Or.inl rfl) (fun r ok2 mem2 hq => ?_)
  obtain ⟨rfl, hq2⟩ := hq
  rw [t0_ov hov] at hq2
  rcases hq1 with y1 | y1
  · obtain ⟨n1, e1, G1⟩ := y1
    simp only [Option.some.injEq, Sum.inl.injEq] at e1
    subst e1
    rcases hq2 with y2 | y2
    · obtain ⟨-, rfl, rfl⟩ := y2
      exact pw_eqx 1800 (by decide) dL_law_1180 (KK ok _ (INV_n hU hRU G1 (RI_st hR0 _) (fun a b1 b2 _ _ _ _ => by rw [wr_a _ _ _ (by omega), wr_a _ _ _ (by omega), ov_in _ _ (by omega) (by omega)]) (fun k _ => by rw [ov_wr _ _ _ _ (by omega) (by omega), ov_in _ _ (by omega) (by omega)]) (fun a ha => by rw [wr_a _ _ _ (by omega), ov_out _ _ ha])))
    · exact absurd y2.1 n1
  · obtain ⟨n1, e1, G1⟩ := y1
    simp only [Option.some.injEq, Sum.inl.injEq] at e1
    subst e1
    rcases hq2 with y2 | y2
    · exact absurd n1 y2.1
    · obtain ⟨-, z9, m9, rfl, h9, rfl⟩ := y2
      have hmo := rnRes_ov (wr mem 88 19 0) mem1 a1
      rw [hmo] at h9 ⊢
      simp only [ov_keepAll] at h9
      have hP : PPl (wr mem 88 19 0) a1 (wr (ov m9 (rKeepAll (rnRes (wr mem 88 19 0) a1).2.1 a1 (rnRes (wr mem 88 19 0) a1).1)) 88 0 0) := ⟨z9, _, vMem_ov h9, rfl⟩
      exact pw_eqx 1800 (by decide) dL_law_1180 (KK ok _ (INV_mv hU hRU h9 (G1 _ hP) (RI_play hR0 h190 n1 hP)))
set_option maxHeartbeats 4000000 in
set_option maxRecDepth 100000 in
theorem lc_attempt (nm : String) (L : Nat) (xs : Nat → Int) (d nf n : Nat) (hd : 8 ≤ d) (Q : pQt) (i : Int) (hi : 0 ≤ i ∧ i + 7 ≤ L) (ok : pO) (mem : pM) (hV : INV n ok mem) (hnf : n ≤ nf) (a1 : Int) (h1 : mX (miL nm L xs) (i + 1).toNat = a1) (r1 : -2147483648 ≤ a1 ∧ a1 ≤ 2147483647) (KK : ∀ ok' mem', INV n ok' mem' → PW (miL nm L xs) d nf 0 Q 1800 [(0, vr 1003), (1, vr 1), (2, vr 88), (3, vi i)] [] n ok' mem') : PW (miL nm L xs) d nf 0 Q 1185 [(0, vr 1003), (1, vr 1), (2, vr 88), (3, vi i)] [] n ok mem := by
  obtain ⟨hU, hRU, hG, hRI⟩ := hV
  have hP9 := hU.1
  have hR9 := hRU.1
  have hn133 := hU.2.2.2.2.2.2.2.2.2.2
  have hn4 := hU.2.2.1.1
  have hn88 := hRU.1.1.2.1
  refine pw_aload_n 1 rfl dL_law_1185 rfl ?_
  refine pw_aload_n 0 rfl dL_law_1186 rfl ?_
  refine pw_iload_n 3 rfl dL_law_1187 rfl ?_
  refine pw_iconst dL_law_1188 ?_
  refine pw_iadd dL_law_1189 ?_
  refine pw_sld rfl dL_law_1190 (by omega) (show i + 1 < ((L : Nat) : Int) by omega) ?_
  rw [h1]
  refine pw_callV (d' := d - 1) (As := [_]) (ci := 9) dL_law_1191 ok_X9_attempt kw_836 rfl rfl (Of.o (by assumption)) (by omega) rfl (Nat.le_of_ble_eq_true rfl) (p_attempt (d - 1) (by omega) n ok mem hU hG hRI a1 r1) hnf (Or.inl rfl) (fun r ok1 mem1 hq => ?_)
  obtain ⟨rfl, hRE, hq1⟩ := hq
  obtain ⟨x9, hr9⟩ : ∃ x9 : Int, r = some (vi x9) := by
    rcases hq1 with y | y
    · exact ⟨_, y.2.1⟩
    · exact ⟨_, y.2.1⟩
  subst hr9
  have hov := ov_id hRE
  have hRI1 := RI_re hRI hRE
  have hR0 := RI_t0 hRI
  have h190 : wr mem 88 19 0 88 19 = 0 := wr_s _ _ _ _
  refine pw_aload_n 2 rfl dL_law_1194 rfl ?_
  refine pw_aload_n 0 rfl dL_law_1195 rfl ?_
  refine pw_iload_n 3 rfl dL_law_1196 rfl ?_
  refine pw_iconst dL_law_1197 ?_
  refine pw_iadd dL_law_1198 ?_
  refine pw_sld rfl dL_law_1199 (by omega) (show i + 1 < ((L : Nat) : Int) by omega) ?_
  rw [h1]
  refine pw_callV (d' := d - 1) (As := [_]) (ci := 10) dL_law_1200 ok_X10_attempt kw_1496 rfl rfl (Of.o (by assumption)) (by omega) rfl (Nat.le_of_ble_eq_true rfl) (r_attempt (d - 1) (by omega) n ok mem1 hRU a1 r1 (fun c c1 c2 => (hRI1.1 c c1 c2).ok) (fun c c1 c2 => ⟨(hRI1.2.1 c c1 c2).1, (hRI1.2.1 c c1 c2).2.1⟩) hRI1.2.2.2.2.1.1 hRI1.2.2.2.2.1.2) hnf (Or.inl rfl) (fun r ok2 mem2 hq => ?_)
  obtain ⟨rfl, hq2⟩ := hq
  rw [t0_ov hov] at hq2
  rcases hq1 with y1 | y1
  · obtain ⟨n1, e1, G1⟩ := y1
    simp only [Option.some.injEq, Sum.inl.injEq] at e1
    subst e1
    rcases hq2 with y2 | y2
    · obtain ⟨-, rfl, rfl⟩ := y2
      exact pw_eqx 1800 (by decide) dL_law_1203 (KK ok _ (INV_n hU hRU G1 (RI_st hR0 _) (fun a b1 b2 _ _ _ _ => by rw [wr_a _ _ _ (by omega), wr_a _ _ _ (by omega), ov_in _ _ (by omega) (by omega)]) (fun k _ => by rw [ov_wr _ _ _ _ (by omega) (by omega), ov_in _ _ (by omega) (by omega)]) (fun a ha => by rw [wr_a _ _ _ (by omega), ov_out _ _ ha])))
    · exact absurd y2.1 n1
  · obtain ⟨n1, e1, G1⟩ := y1
    simp only [Option.some.injEq, Sum.inl.injEq] at e1
    subst e1
    rcases hq2 with y2 | y2
    · exact absurd n1 y2.1
    · obtain ⟨-, z9, m9, rfl, h9, rfl⟩ := y2
      have hmo := attRes_ov (wr mem 88 19 0) mem1 a1
      rw [hmo.1]
      rw [hmo.2.1, hmo.2.2] at h9
      have hP : PAt (wr mem 88 19 0) a1 (wr (ov m9 (attRes (wr mem 88 19 0) a1).2.1) 88 0 0) := ⟨z9, _, vMem_ov h9, rfl⟩
      exact pw_eqx 1800 (by decide) dL_law_1203 (KK ok _ (INV_mv hU hRU h9 (G1 _ hP) (RI_attempt hR0 h190 n1 hP)))
set_option maxHeartbeats 4000000 in
set_option maxRecDepth 100000 in
theorem lc_attempted (nm : String) (L : Nat) (xs : Nat → Int) (d nf n : Nat) (hd : 8 ≤ d) (Q : pQt) (i : Int) (hi : 0 ≤ i ∧ i + 7 ≤ L) (ok : pO) (mem : pM) (hV : INV n ok mem) (hnf : n ≤ nf) (a1 : Int) (h1 : mX (miL nm L xs) (i + 1).toNat = a1) (r1 : -2147483648 ≤ a1 ∧ a1 ≤ 2147483647) (KK : ∀ ok' mem', INV n ok' mem' → PW (miL nm L xs) d nf 0 Q 1800 [(0, vr 1003), (1, vr 1), (2, vr 88), (3, vi i)] [] n ok' mem') : PW (miL nm L xs) d nf 0 Q 1208 [(0, vr 1003), (1, vr 1), (2, vr 88), (3, vi i)] [] n ok mem := by
  obtain ⟨hU, hRU, hG, hRI⟩ := hV
  have hP9 := hU.1
  have hR9 := hRU.1
  have hn133 := hU.2.2.2.2.2.2.2.2.2.2
  have hn4 := hU.2.2.1.1
  have hn88 := hRU.1.1.2.1
  refine pw_aload_n 1 rfl dL_law_1208 rfl ?_
  refine pw_aload_n 0 rfl dL_law_1209 rfl ?_
  refine pw_iload_n 3 rfl dL_law_1210 rfl ?_
  refine pw_iconst dL_law_1211 ?_
  refine pw_iadd dL_law_1212 ?_
  refine pw_sld rfl dL_law_1213 (by omega) (show i + 1 < ((L : Nat) : Int) by omega) ?_
  rw [h1]
  refine pw_callV (d' := d - 1) (As := [_]) (ci := 9) dL_law_1214 ok_X9_attempted kw_840 rfl rfl (Of.o (by assumption)) (by omega) rfl (Nat.le_of_ble_eq_true rfl) (p_attempted (d - 1) (by omega) n ok mem hU hG hRI a1 r1) hnf (Or.inl rfl) (fun r ok1 mem1 hq => ?_)
  obtain ⟨rfl, rfl, hRE, hG1⟩ := hq
  have hov := ov_id hRE
  have hRI1 := RI_re hRI hRE
  refine pw_aload_n 2 rfl dL_law_1217 rfl ?_
  refine pw_aload_n 0 rfl dL_law_1218 rfl ?_
  refine pw_iload_n 3 rfl dL_law_1219 rfl ?_
  refine pw_iconst dL_law_1220 ?_
  refine pw_iadd dL_law_1221 ?_
  refine pw_sld rfl dL_law_1222 (by omega) (show i + 1 < ((L : Nat) : Int) by omega) ?_
  rw [h1]
  refine pw_callV (d' := d - 1) (As := [_]) (ci := 10) dL_law_1223 ok_X10_attempted kw_1500 rfl rfl (Of.o (by assumption)) (by omega) rfl (Nat.le_of_ble_eq_true rfl) (r_attempted (d - 1) (by omega) n ok mem1 hRU a1 r1) hnf (Or.inl rfl) (fun r ok2 mem2 hq => ?_)
  obtain ⟨rfl, rfl, rfl⟩ := hq
  have hF : rAttd mem1 a1 = pOv (rAttd mem a1) mem1 := by
    have h9 := rAttd_ov mem mem1 a1
    rw [hov] at h9; exact h9
  rw [hF]
  exact pw_eqx 1800 (by decide) dL_law_1226 (KK ok _ (INV_ov hU hRU hG1 (RI_attd hRI a1)))
set_option maxHeartbeats 4000000 in
set_option maxRecDepth 100000 in
theorem lc_back (nm : String) (L : Nat) (xs : Nat → Int) (d nf n : Nat) (hd : 8 ≤ d) (Q : pQt) (i : Int) (hi : 0 ≤ i ∧ i + 7 ≤ L) (ok : pO) (mem : pM) (hV : INV n ok mem) (hnf : n ≤ nf) (a1 : Int) (h1 : mX (miL nm L xs) (i + 1).toNat = a1) (r1 : -2147483648 ≤ a1 ∧ a1 ≤ 2147483647) (KK : ∀ ok' mem', INV n ok' mem' → PW (miL nm L xs) d nf 0 Q 1800 [(0, vr 1003), (1, vr 1), (2, vr 88), (3, vi i)] [] n ok' mem') : PW (miL nm L xs) d nf 0 Q 1231 [(0, vr 1003), (1, vr 1), (2, vr 88), (3, vi i)] [] n ok mem := by
  obtain ⟨hU, hRU, hG, hRI⟩ := hV
  have hP9 := hU.1
  have hR9 := hRU.1
  have hn133 := hU.2.2.2.2.2.2.2.2.2.2
  have hn4 := hU.2.2.1.1
  have hn88 := hRU.1.1.2.1
  refine pw_aload_n 1 rfl dL_law_1231 rfl ?_
  refine pw_aload_n 0 rfl dL_law_1232 rfl ?_
  refine pw_iload_n 3 rfl dL_law_1233 rfl ?_
  refine pw_iconst dL_law_1234 ?_
  refine pw_iadd dL_law_1235 ?_
  refine pw_sld rfl dL_law_1236 (by omega) (show i + 1 < ((L : Nat) : Int) by omega) ?_
  rw [h1]
  refine pw_callV (d' := d - 1) (As := [_]) (ci := 9) dL_law_1237 ok_X9_back kw_844 rfl rfl (Of.o (by assumption)) (by omega) rfl (Nat.le_of_ble_eq_true rfl) (p_back (d - 1) (by omega) n ok mem hU hG hRI a1 r1) hnf (Or.inl rfl) (fun r ok1 mem1 hq => ?_)
  obtain ⟨rfl, rfl, hRE, hG1⟩ := hq
  have hov := ov_id hRE
  have hRI1 := RI_re hRI hRE
  refine pw_aload_n 2 rfl dL_law_1240 rfl ?_
  refine pw_aload_n 0 rfl dL_law_1241 rfl ?_
  refine pw_iload_n 3 rfl dL_law_1242 rfl ?_
  refine pw_iconst dL_law_1243 ?_
  refine pw_iadd dL_law_1244 ?_
  refine pw_sld rfl dL_law_1245 (by omega) (show i + 1 < ((L : Nat) : Int) by omega) ?_
  rw [h1]
  refine pw_callV (d' := d - 1) (As := [_]) (ci := 10) dL_law_1246 ok_X10_back kw_1504 rfl rfl (Of.o (by assumption)) (by omega) rfl (Nat.le_of_ble_eq_true rfl) (r_back (d - 1) (by omega) n ok mem1 hRU a1 r1 (fun c c1 c2 => (hRI1.1 c c1 c2).ok) (fun c c1 c2 => ⟨(hRI1.2.1 c c1 c2).1, (hRI1.2.1 c c1 c2).2.1⟩) (fun c j c1 c2 j1 j2 => ((hRI1.2.1 c c1 c2).2.2 j j1 j2).1)) hnf (Or.inl rfl) (fun r ok2 mem2 hq => ?_)
  obtain ⟨rfl, rfl, rfl⟩ := hq
  have hF : rBack mem1 a1 = pOv (rBack mem a1) mem1 := by
    have h9 := rBack_ov mem mem1 a1
    rw [hov] at h9; exact h9
  rw [hF]
  exact pw_eqx 1800 (by decide) dL_law_1249 (KK ok _ (INV_ov hU hRU hG1 (RI_back hRI a1)))
set_option maxHeartbeats 4000000 in
set_option maxRecDepth 100000 in
theorem lc_search0 (nm : String) (L : Nat) (xs : Nat → Int) (d nf n : Nat) (hd : 8 ≤ d) (Q : pQt) (i : Int) (hi : 0 ≤ i ∧ i + 7 ≤ L) (ok : pO) (mem : pM) (hV : INV n ok mem) (hnf : n ≤ nf) (a1 a2 : Int) (h1 : mX (miL nm L xs) (i + 1).toNat = a1) (r1 : -2147483648 ≤ a1 ∧ a1 ≤ 2147483647) (h2 : mX (miL nm L xs) (i + 2).toNat = a2) (r2 : -2147483648 ≤ a2 ∧ a2 ≤ 2147483647) (hbad : ¬ ((0 ≤ a1 ∧ a1 ≤ 2) ∧ (1 ≤ a2 ∧ a2 ≤ 1000))) (KK : ∀ ok' mem', INV n ok' mem' → PW (miL nm L xs) d nf 0 Q 1800 [(0, vr 1003), (1, vr 1), (2, vr 88), (3, vi i)] [] n ok' mem') : PW (miL nm L xs) d nf 0 Q 1254 [(0, vr 1003), (1, vr 1), (2, vr 88), (3, vi i)] [] n ok mem := by
  obtain ⟨hU, hRU, hG, hRI⟩ := hV
  have hP9 := hU.1
  have hR9 := hRU.1
  have hn133 := hU.2.2.2.2.2.2.2.2.2.2
  have hn4 := hU.2.2.1.1
  have hn88 := hRU.1.1.2.1
  refine pw_aload_n 1 rfl dL_law_1254 rfl ?_
  refine pw_aload_n 0 rfl dL_law_1255 rfl ?_
  refine pw_iload_n 3 rfl dL_law_1256 rfl ?_
  refine pw_iconst dL_law_1257 ?_
  refine pw_iadd dL_law_1258 ?_
  refine pw_sld rfl dL_law_1259 (by omega) (show i + 1 < ((L : Nat) : Int) by omega) ?_
  rw [h1]
  refine pw_aload_n 0 rfl dL_law_1260 rfl ?_
  refine pw_iload_n 3 rfl dL_law_1261 rfl ?_
  refine pw_iconst dL_law_1262 ?_
  refine pw_iadd dL_law_1263 ?_
  refine pw_sld rfl dL_law_1264 (by omega) (show i + 2 < ((L : Nat) : Int) by omega) ?_
  rw [h2]
  refine pw_callV (d' := d - 1) (As := [_, _]) (ci := 9) dL_law_1265 ok_X9_search kw_852 rfl rfl (Of.o (by assumption)) (by omega) rfl (Nat.le_of_ble_eq_true rfl) (p_search0 (d - 1) (by omega) n ok mem hU hG hRI a1 a2 r1 r2 hbad) hnf (Or.inl rfl) (fun r ok1 mem1 hq => ?_)
  obtain ⟨rfl, rfl, hRE, hG1⟩ := hq
  have hov := ov_id hRE
  have hRI1 := RI_re hRI hRE
  refine pw_aload_n 2 rfl dL_law_1268 rfl ?_
  refine pw_aload_n 0 rfl dL_law_1269 rfl ?_
  refine pw_iload_n 3 rfl dL_law_1270 rfl ?_
  refine pw_iconst dL_law_1271 ?_
  refine pw_iadd dL_law_1272 ?_
  refine pw_sld rfl dL_law_1273 (by omega) (show i + 1 < ((L : Nat) : Int) by omega) ?_
  rw [h1]
  refine pw_aload_n 0 rfl dL_law_1274 rfl ?_
  refine pw_iload_n 3 rfl dL_law_1275 rfl ?_
  refine pw_iconst dL_law_1276 ?_
  refine pw_iadd dL_law_1277 ?_
  refine pw_sld rfl dL_law_1278 (by omega) (show i + 2 < ((L : Nat) : Int) by omega) ?_
  rw [h2]
  refine pw_callV (d' := d - 1) (As := [_, _]) (ci := 10) dL_law_1279 ok_X10_search kw_1508 rfl rfl (Of.o (by assumption)) (by omega) rfl (Nat.le_of_ble_eq_true rfl) (r_search (d - 1) (by omega) n ok mem1 hRU a1 a2 r1 r2 (fun c c1 c2 => (hRI1.1 c c1 c2).ok) (by have := hRI1.2.2.1; omega)) hnf (Or.inl rfl) (fun r ok2 mem2 hq => ?_)
  obtain ⟨rfl, rfl, heq⟩ := hq
  have hF : rSearch mem1 a1 a2 = pOv (rSearch mem a1 a2) mem1 := by
    have h9 := rSearch_ov mem mem1 a1 a2
    rw [hov] at h9; exact h9
  rw [hF] at heq ⊢
  exact pw_eqx 1800 (by decide) dL_law_1282 (KK ok _ (INV_eq hU hRU hG1 (RI_search hRI a1 a2) heq))
set_option maxHeartbeats 4000000 in
set_option maxRecDepth 100000 in
theorem lc_search1 (nm : String) (L : Nat) (xs : Nat → Int) (d nf n : Nat) (hd : 8 ≤ d) (Q : pQt) (i : Int) (hi : 0 ≤ i ∧ i + 7 ≤ L) (ok : pO) (mem : pM) (hV : INV n ok mem) (hn9 : n ≤ 133) (hnf : nf = 133) (a1 a2 : Int) (h1 : mX (miL nm L xs) (i + 1).toNat = a1) (r1 : -2147483648 ≤ a1 ∧ a1 ≤ 2147483647) (h2 : mX (miL nm L xs) (i + 2).toNat = a2) (r2 : -2147483648 ≤ a2 ∧ a2 ≤ 2147483647) (hg1 : 0 ≤ a1 ∧ a1 ≤ 2) (hg2 : 1 ≤ a2 ∧ a2 ≤ 1000) (KK : ∀ ok' mem', INV 133 ok' mem' → PW (miL nm L xs) d nf 0 Q 1800 [(0, vr 1003), (1, vr 1), (2, vr 88), (3, vi i)] [] 133 ok' mem') : PW (miL nm L xs) d nf 0 Q 1254 [(0, vr 1003), (1, vr 1), (2, vr 88), (3, vi i)] [] n ok mem := by
  obtain ⟨hU, hRU, hG, hRI⟩ := hV
  have hP9 := hU.1
  have hR9 := hRU.1
  have hn133 := hU.2.2.2.2.2.2.2.2.2.2
  have hn4 := hU.2.2.1.1
  have hn88 := hRU.1.1.2.1
  refine pw_aload_n 1 rfl dL_law_1254 rfl ?_
  refine pw_aload_n 0 rfl dL_law_1255 rfl ?_
  refine pw_iload_n 3 rfl dL_law_1256 rfl ?_
  refine pw_iconst dL_law_1257 ?_
  refine pw_iadd dL_law_1258 ?_
  refine pw_sld rfl dL_law_1259 (by omega) (show i + 1 < ((L : Nat) : Int) by omega) ?_
  rw [h1]
  refine pw_aload_n 0 rfl dL_law_1260 rfl ?_
  refine pw_iload_n 3 rfl dL_law_1261 rfl ?_
  refine pw_iconst dL_law_1262 ?_
  refine pw_iadd dL_law_1263 ?_
  refine pw_sld rfl dL_law_1264 (by omega) (show i + 2 < ((L : Nat) : Int) by omega) ?_
  rw [h2]
  refine pw_callV (d' := d - 1) (As := [_, _]) (ci := 9) dL_law_1265 ok_X9_search kw_852 rfl rfl (Of.o (by assumption)) (by omega) rfl (Nat.le_of_ble_eq_true rfl) (p_search1 (d - 1) (by omega) n ok mem hU hG hRI a1 a2 r1 r2 hg1 hg2) (by omega) (Or.inr ⟨by simp [nrf]; omega, by simp [nrf]⟩) (fun r ok1 mem1 hq => ?_)
  obtain ⟨rfl, hok1, hU1, hRE, hG1⟩ := hq
  have hov := ov_id hRE
  have hRI1 := RI_re hRI hRE
  have hRU1 := RefUp_up hRU hn9 hok1
  have hRO1 := hRU1.1
  refine pw_aload_n 2 rfl dL_law_1268 rfl ?_
  refine pw_aload_n 0 rfl dL_law_1269 rfl ?_
  refine pw_iload_n 3 rfl dL_law_1270 rfl ?_
  refine pw_iconst dL_law_1271 ?_
  refine pw_iadd dL_law_1272 ?_
  refine pw_sld rfl dL_law_1273 (by omega) (show i + 1 < ((L : Nat) : Int) by omega) ?_
  rw [h1]
  refine pw_aload_n 0 rfl dL_law_1274 rfl ?_
  refine pw_iload_n 3 rfl dL_law_1275 rfl ?_
  refine pw_iconst dL_law_1276 ?_
  refine pw_iadd dL_law_1277 ?_
  refine pw_sld rfl dL_law_1278 (by omega) (show i + 2 < ((L : Nat) : Int) by omega) ?_
  rw [h2]
  refine pw_callV (d' := d - 1) (As := [_, _]) (ci := 10) dL_law_1279 ok_X10_search kw_1508 rfl rfl (Of.o (by assumption)) (by omega) rfl (Nat.le_of_ble_eq_true rfl) (r_search (d - 1) (by omega) 133 ok1 mem1 hRU1 a1 a2 r1 r2 (fun c c1 c2 => (hRI1.1 c c1 c2).ok) (by have := hRI1.2.2.1; omega)) (by omega) (Or.inl rfl) (fun r ok2 mem2 hq => ?_)
  obtain ⟨rfl, rfl, heq⟩ := hq
  have hF : rSearch mem1 a1 a2 = pOv (rSearch mem a1 a2) mem1 := by
    have h9 := rSearch_ov mem mem1 a1 a2
    rw [hov] at h9; exact h9
  rw [hF] at heq ⊢
  exact pw_eqx 1800 (by decide) dL_law_1282 (KK ok1 _ (INV_eq hU1 hRU1 hG1 (RI_search hRI a1 a2) heq))
set_option maxHeartbeats 4000000 in
set_option maxRecDepth 100000 in
theorem lc_goOn (nm : String) (L : Nat) (xs : Nat → Int) (d nf n : Nat) (hd : 8 ≤ d) (Q : pQt) (i : Int) (hi : 0 ≤ i ∧ i + 7 ≤ L) (ok : pO) (mem : pM) (hV : INV n ok mem) (hnf : n ≤ nf) (a1 : Int) (h1 : mX (miL nm L xs) (i + 1).toNat = a1) (r1 : -2147483648 ≤ a1 ∧ a1 ≤ 2147483647) (KK : ∀ ok' mem', INV n ok' mem' → PW (miL nm L xs) d nf 0 Q 1800 [(0, vr 1003), (1, vr 1), (2, vr 88), (3, vi i)] [] n ok' mem') : PW (miL nm L xs) d nf 0 Q 1287 [(0, vr 1003), (1, vr 1), (2, vr 88), (3, vi i)] [] n ok mem := by
  obtain ⟨hU, hRU, hG, hRI⟩ := hV
  have hP9 := hU.1
  have hR9 := hRU.1
  have hn133 := hU.2.2.2.2.2.2.2.2.2.2
  have hn4 := hU.2.2.1.1
  have hn88 := hRU.1.1.2.1
  refine pw_aload_n 1 rfl dL_law_1287 rfl ?_
  refine pw_aload_n 0 rfl dL_law_1288 rfl ?_
  refine pw_iload_n 3 rfl dL_law_1289 rfl ?_
  refine pw_iconst dL_law_1290 ?_
  refine pw_iadd dL_law_1291 ?_
  refine pw_sld rfl dL_law_1292 (by omega) (show i + 1 < ((L : Nat) : Int) by omega) ?_
  rw [h1]
  refine pw_callV (d' := d - 1) (As := [_]) (ci := 9) dL_law_1293 ok_X9_goOn kw_860 rfl rfl (Of.o (by assumption)) (by omega) rfl (Nat.le_of_ble_eq_true rfl) (p_goOn (d - 1) (by omega) n ok mem hU hG hRI a1 r1) hnf (Or.inl rfl) (fun r ok1 mem1 hq => ?_)
  obtain ⟨rfl, rfl, hRE, hG1⟩ := hq
  have hov := ov_id hRE
  have hRI1 := RI_re hRI hRE
  refine pw_aload_n 2 rfl dL_law_1296 rfl ?_
  refine pw_aload_n 0 rfl dL_law_1297 rfl ?_
  refine pw_iload_n 3 rfl dL_law_1298 rfl ?_
  refine pw_iconst dL_law_1299 ?_
  refine pw_iadd dL_law_1300 ?_
  refine pw_sld rfl dL_law_1301 (by omega) (show i + 1 < ((L : Nat) : Int) by omega) ?_
  rw [h1]
  refine pw_callV (d' := d - 1) (As := [_]) (ci := 10) dL_law_1302 ok_X10_goOn kw_1517 rfl rfl (Of.o (by assumption)) (by omega) rfl (Nat.le_of_ble_eq_true rfl) (r_goOn (d - 1) (by omega) n ok mem1 hRU a1 r1 (fun h31 h32 => ⟨(hRI1.2.2.2.2.2.2.2.1 h31).1, (hRI1.1 _ (hRI1.2.2.2.2.2.2.2.1 h31).1.1 (hRI1.2.2.2.2.2.2.2.1 h31).1.2).ok, (hRI1.2.2.2.2.2.2.2.1 h31).2 h32⟩) (by have := hRI1.2.2.1; omega)) hnf (Or.inl rfl) (fun r ok2 mem2 hq => ?_)
  obtain ⟨rfl, rfl, heq⟩ := hq
  have hF : rGoOn mem1 a1 = pOv (rGoOn mem a1) mem1 := by
    have h9 := rGoOn_ov mem mem1 a1
    rw [hov] at h9; exact h9
  rw [hF] at heq ⊢
  exact pw_eqx 1800 (by decide) dL_law_1305 (KK ok _ (INV_eq hU hRU hG1 (RI_goOn hRI a1) heq))
set_option maxHeartbeats 4000000 in
set_option maxRecDepth 100000 in
theorem lc_searched (nm : String) (L : Nat) (xs : Nat → Int) (d nf n : Nat) (hd : 8 ≤ d) (Q : pQt) (i : Int) (hi : 0 ≤ i ∧ i + 7 ≤ L) (ok : pO) (mem : pM) (hV : INV n ok mem) (hnf : n ≤ nf) (a1 : Int) (h1 : mX (miL nm L xs) (i + 1).toNat = a1) (r1 : -2147483648 ≤ a1 ∧ a1 ≤ 2147483647) (KK : ∀ ok' mem', INV n ok' mem' → PW (miL nm L xs) d nf 0 Q 1800 [(0, vr 1003), (1, vr 1), (2, vr 88), (3, vi i)] [] n ok' mem') : PW (miL nm L xs) d nf 0 Q 1310 [(0, vr 1003), (1, vr 1), (2, vr 88), (3, vi i)] [] n ok mem := by
  obtain ⟨hU, hRU, hG, hRI⟩ := hV
  have hP9 := hU.1
  have hR9 := hRU.1
  have hn133 := hU.2.2.2.2.2.2.2.2.2.2
  have hn4 := hU.2.2.1.1
  have hn88 := hRU.1.1.2.1
  refine pw_aload_n 1 rfl dL_law_1310 rfl ?_
  refine pw_aload_n 0 rfl dL_law_1311 rfl ?_
  refine pw_iload_n 3 rfl dL_law_1312 rfl ?_
  refine pw_iconst dL_law_1313 ?_
  refine pw_iadd dL_law_1314 ?_
  refine pw_sld rfl dL_law_1315 (by omega) (show i + 1 < ((L : Nat) : Int) by omega) ?_
  rw [h1]
  refine pw_callV (d' := d - 1) (As := [_]) (ci := 9) dL_law_1316 ok_X9_searched kw_872 rfl rfl (Of.o (by assumption)) (by omega) rfl (Nat.le_of_ble_eq_true rfl) (p_searched (d - 1) (by omega) n ok mem hU hG hRI a1 r1) hnf (Or.inl rfl) (fun r ok1 mem1 hq => ?_)
  obtain ⟨rfl, rfl, hRE, hG1⟩ := hq
  have hov := ov_id hRE
  have hRI1 := RI_re hRI hRE
  refine pw_aload_n 2 rfl dL_law_1319 rfl ?_
  refine pw_aload_n 0 rfl dL_law_1320 rfl ?_
  refine pw_iload_n 3 rfl dL_law_1321 rfl ?_
  refine pw_iconst dL_law_1322 ?_
  refine pw_iadd dL_law_1323 ?_
  refine pw_sld rfl dL_law_1324 (by omega) (show i + 1 < ((L : Nat) : Int) by omega) ?_
  rw [h1]
  refine pw_callV (d' := d - 1) (As := [_]) (ci := 10) dL_law_1325 ok_X10_searched kw_1521 rfl rfl (Of.o (by assumption)) (by omega) rfl (Nat.le_of_ble_eq_true rfl) (r_searched (d - 1) (by omega) n ok mem1 hRU a1 r1 hRI1.2.2.2.2.2.1) hnf (Or.inl rfl) (fun r ok2 mem2 hq => ?_)
  obtain ⟨rfl, rfl, rfl⟩ := hq
  have hF : rSearched mem1 a1 = pOv (rSearched mem a1) mem1 := by
    have h9 := rSearched_ov mem mem1 a1
    rw [hov] at h9; exact h9
  rw [hF]
  exact pw_eqx 1800 (by decide) dL_law_1328 (KK ok _ (INV_ov hU hRU hG1 (RI_searched hRI a1)))
set_option maxHeartbeats 4000000 in
set_option maxRecDepth 100000 in
theorem lc_ordered (nm : String) (L : Nat) (xs : Nat → Int) (d nf n : Nat) (hd : 8 ≤ d) (Q : pQt) (i : Int) (hi : 0 ≤ i ∧ i + 7 ≤ L) (ok : pO) (mem : pM) (hV : INV n ok mem) (hnf : n ≤ nf) (a1 : Int) (h1 : mX (miL nm L xs) (i + 1).toNat = a1) (r1 : -2147483648 ≤ a1 ∧ a1 ≤ 2147483647) (KK : ∀ ok' mem', INV n ok' mem' → PW (miL nm L xs) d nf 0 Q 1800 [(0, vr 1003), (1, vr 1), (2, vr 88), (3, vi i)] [] n ok' mem') : PW (miL nm L xs) d nf 0 Q 1333 [(0, vr 1003), (1, vr 1), (2, vr 88), (3, vi i)] [] n ok mem := by
  obtain ⟨hU, hRU, hG, hRI⟩ := hV
  have hP9 := hU.1
  have hR9 := hRU.1
  have hn133 := hU.2.2.2.2.2.2.2.2.2.2
  have hn4 := hU.2.2.1.1
  have hn88 := hRU.1.1.2.1
  refine pw_aload_n 1 rfl dL_law_1333 rfl ?_
  refine pw_aload_n 0 rfl dL_law_1334 rfl ?_
  refine pw_iload_n 3 rfl dL_law_1335 rfl ?_
  refine pw_iconst dL_law_1336 ?_
  refine pw_iadd dL_law_1337 ?_
  refine pw_sld rfl dL_law_1338 (by omega) (show i + 1 < ((L : Nat) : Int) by omega) ?_
  rw [h1]
  refine pw_callV (d' := d - 1) (As := [_]) (ci := 9) dL_law_1339 ok_X9_ordered kw_881 rfl rfl (Of.o (by assumption)) (by omega) rfl (Nat.le_of_ble_eq_true rfl) (p_ordered (d - 1) (by omega) n ok mem hU hG hRI a1 r1) hnf (Or.inl rfl) (fun r ok1 mem1 hq => ?_)
  obtain ⟨rfl, rfl, hRE, hG1⟩ := hq
  have hov := ov_id hRE
  have hRI1 := RI_re hRI hRE
  refine pw_aload_n 2 rfl dL_law_1342 rfl ?_
  refine pw_aload_n 0 rfl dL_law_1343 rfl ?_
  refine pw_iload_n 3 rfl dL_law_1344 rfl ?_
  refine pw_iconst dL_law_1345 ?_
  refine pw_iadd dL_law_1346 ?_
  refine pw_sld rfl dL_law_1347 (by omega) (show i + 1 < ((L : Nat) : Int) by omega) ?_
  rw [h1]
  refine pw_callV (d' := d - 1) (As := [_]) (ci := 10) dL_law_1348 ok_X10_ordered kw_1525 rfl rfl (Of.o (by assumption)) (by omega) rfl (Nat.le_of_ble_eq_true rfl) (r_ordered (d - 1) (by omega) n ok mem1 hRU a1 r1 hRI1.2.2.2.2.2.1) hnf (Or.inl rfl) (fun r ok2 mem2 hq => ?_)
  obtain ⟨rfl, rfl, rfl⟩ := hq
  have hF : rOrdered mem1 a1 = pOv (rOrdered mem a1) mem1 := by
    have h9 := rOrdered_ov mem mem1 a1
    rw [hov] at h9; exact h9
  rw [hF]
  exact pw_eqx 1800 (by decide) dL_law_1351 (KK ok _ (INV_ov hU hRU hG1 (RI_ordered hRI a1)))
set_option maxHeartbeats 4000000 in
set_option maxRecDepth 100000 in
theorem lc_layer (nm : String) (L : Nat) (xs : Nat → Int) (d nf n : Nat) (hd : 8 ≤ d) (Q : pQt) (i : Int) (hi : 0 ≤ i ∧ i + 7 ≤ L) (ok : pO) (mem : pM) (hV : INV n ok mem) (hnf : n ≤ nf) (a1 : Int) (h1 : mX (miL nm L xs) (i + 1).toNat = a1) (r1 : -2147483648 ≤ a1 ∧ a1 ≤ 2147483647) (KK : ∀ ok' mem', INV n ok' mem' → PW (miL nm L xs) d nf 0 Q 1800 [(0, vr 1003), (1, vr 1), (2, vr 88), (3, vi i)] [] n ok' mem') : PW (miL nm L xs) d nf 0 Q 1356 [(0, vr 1003), (1, vr 1), (2, vr 88), (3, vi i)] [] n ok mem := by
  obtain ⟨hU, hRU, hG, hRI⟩ := hV
  have hP9 := hU.1
  have hR9 := hRU.1
  have hn133 := hU.2.2.2.2.2.2.2.2.2.2
  have hn4 := hU.2.2.1.1
  have hn88 := hRU.1.1.2.1
  refine pw_aload_n 1 rfl dL_law_1356 rfl ?_
  refine pw_aload_n 0 rfl dL_law_1357 rfl ?_
  refine pw_iload_n 3 rfl dL_law_1358 rfl ?_
  refine pw_iconst dL_law_1359 ?_
  refine pw_iadd dL_law_1360 ?_
  refine pw_sld rfl dL_law_1361 (by omega) (show i + 1 < ((L : Nat) : Int) by omega) ?_
  rw [h1]
  refine pw_callV (d' := d - 1) (As := [_]) (ci := 9) dL_law_1362 ok_X9_layer kw_885 rfl rfl (Of.o (by assumption)) (by omega) rfl (Nat.le_of_ble_eq_true rfl) (p_layer (d - 1) (by omega) n ok mem hU hG hRI a1 r1) hnf (Or.inl rfl) (fun r ok1 mem1 hq => ?_)
  obtain ⟨rfl, rfl, hRE, hG1⟩ := hq
  have hov := ov_id hRE
  have hRI1 := RI_re hRI hRE
  refine pw_aload_n 2 rfl dL_law_1365 rfl ?_
  refine pw_aload_n 0 rfl dL_law_1366 rfl ?_
  refine pw_iload_n 3 rfl dL_law_1367 rfl ?_
  refine pw_iconst dL_law_1368 ?_
  refine pw_iadd dL_law_1369 ?_
  refine pw_sld rfl dL_law_1370 (by omega) (show i + 1 < ((L : Nat) : Int) by omega) ?_
  rw [h1]
  refine pw_callV (d' := d - 1) (As := [_]) (ci := 10) dL_law_1371 ok_X10_layer kw_1529 rfl rfl (Of.o (by assumption)) (by omega) rfl (Nat.le_of_ble_eq_true rfl) (r_layer (d - 1) (by omega) n ok mem1 hRU a1 r1) hnf (Or.inl rfl) (fun r ok2 mem2 hq => ?_)
  obtain ⟨rfl, rfl, rfl⟩ := hq
  have hF : rLayer mem1 a1 = pOv (rLayer mem a1) mem1 := by
    have h9 := rLayer_ov mem mem1 a1
    rw [hov] at h9; exact h9
  rw [hF]
  exact pw_eqx 1800 (by decide) dL_law_1374 (KK ok _ (INV_ov hU hRU hG1 (RI_layer hRI a1)))
set_option maxHeartbeats 4000000 in
set_option maxRecDepth 100000 in
theorem lc_shortest (nm : String) (L : Nat) (xs : Nat → Int) (d nf n : Nat) (hd : 8 ≤ d) (Q : pQt) (i : Int) (hi : 0 ≤ i ∧ i + 7 ≤ L) (ok : pO) (mem : pM) (hV : INV n ok mem) (hnf : n ≤ nf) (KK : ∀ ok' mem', INV n ok' mem' → PW (miL nm L xs) d nf 0 Q 1800 [(0, vr 1003), (1, vr 1), (2, vr 88), (3, vi i)] [] n ok' mem') : PW (miL nm L xs) d nf 0 Q 1379 [(0, vr 1003), (1, vr 1), (2, vr 88), (3, vi i)] [] n ok mem := by
  obtain ⟨hU, hRU, hG, hRI⟩ := hV
  have hP9 := hU.1
  have hR9 := hRU.1
  have hn133 := hU.2.2.2.2.2.2.2.2.2.2
  have hn4 := hU.2.2.1.1
  have hn88 := hRU.1.1.2.1
  refine pw_aload_n 1 rfl dL_law_1379 rfl ?_
  refine pw_callV (d' := d - 1) (As := []) (ci := 9) dL_law_1380 ok_X9_shortest kw_893 rfl rfl (Of.o (by assumption)) (by omega) rfl (Nat.le_of_ble_eq_true rfl) (p_shortest (d - 1) (by omega) n ok mem hU hG hRI  ) hnf (Or.inl rfl) (fun r ok1 mem1 hq => ?_)
  obtain ⟨rfl, rfl, hRE, hG1⟩ := hq
  have hov := ov_id hRE
  have hRI1 := RI_re hRI hRE
  refine pw_aload_n 2 rfl dL_law_1383 rfl ?_
  refine pw_callV (d' := d - 1) (As := []) (ci := 10) dL_law_1384 ok_X10_shortest kw_1534 rfl rfl (Of.o (by assumption)) (by omega) rfl (Nat.le_of_ble_eq_true rfl) (r_shortest (d - 1) (by omega) n ok mem1 hRU   hRI1.2.2.2.2.2.1) hnf (Or.inl rfl) (fun r ok2 mem2 hq => ?_)
  obtain ⟨rfl, rfl, rfl⟩ := hq
  have hF : rShortest mem1 = pOv (rShortest mem) mem1 := by
    have h9 := rShortest_ov mem mem1
    rw [hov] at h9; exact h9
  rw [hF]
  exact pw_eqx 1800 (by decide) dL_law_1387 (KK ok _ (INV_ov hU hRU hG1 (RI_shortest hRI)))
set_option maxHeartbeats 4000000 in
set_option maxRecDepth 100000 in
theorem lc_way (nm : String) (L : Nat) (xs : Nat → Int) (d nf n : Nat) (hd : 8 ≤ d) (Q : pQt) (i : Int) (hi : 0 ≤ i ∧ i + 7 ≤ L) (ok : pO) (mem : pM) (hV : INV n ok mem) (hnf : n ≤ nf) (a1 : Int) (h1 : mX (miL nm L xs) (i + 1).toNat = a1) (r1 : -2147483648 ≤ a1 ∧ a1 ≤ 2147483647) (KK : ∀ ok' mem', INV n ok' mem' → PW (miL nm L xs) d nf 0 Q 1800 [(0, vr 1003), (1, vr 1), (2, vr 88), (3, vi i)] [] n ok' mem') : PW (miL nm L xs) d nf 0 Q 1392 [(0, vr 1003), (1, vr 1), (2, vr 88), (3, vi i)] [] n ok mem := by
  obtain ⟨hU, hRU, hG, hRI⟩ := hV
  have hP9 := hU.1
  have hR9 := hRU.1
  have hn133 := hU.2.2.2.2.2.2.2.2.2.2
  have hn4 := hU.2.2.1.1
  have hn88 := hRU.1.1.2.1
  refine pw_aload_n 1 rfl dL_law_1392 rfl ?_
  refine pw_aload_n 0 rfl dL_law_1393 rfl ?_
  refine pw_iload_n 3 rfl dL_law_1394 rfl ?_
  refine pw_iconst dL_law_1395 ?_
  refine pw_iadd dL_law_1396 ?_
  refine pw_sld rfl dL_law_1397 (by omega) (show i + 1 < ((L : Nat) : Int) by omega) ?_
  rw [h1]
  refine pw_callV (d' := d - 1) (As := [_]) (ci := 9) dL_law_1398 ok_X9_way kw_897 rfl rfl (Of.o (by assumption)) (by omega) rfl (Nat.le_of_ble_eq_true rfl) (p_way (d - 1) (by omega) n ok mem hU hG hRI a1 r1) hnf (Or.inl rfl) (fun r ok1 mem1 hq => ?_)
  obtain ⟨rfl, rfl, hRE, hG1⟩ := hq
  have hov := ov_id hRE
  have hRI1 := RI_re hRI hRE
  refine pw_aload_n 2 rfl dL_law_1401 rfl ?_
  refine pw_aload_n 0 rfl dL_law_1402 rfl ?_
  refine pw_iload_n 3 rfl dL_law_1403 rfl ?_
  refine pw_iconst dL_law_1404 ?_
  refine pw_iadd dL_law_1405 ?_
  refine pw_sld rfl dL_law_1406 (by omega) (show i + 1 < ((L : Nat) : Int) by omega) ?_
  rw [h1]
  refine pw_callV (d' := d - 1) (As := [_]) (ci := 10) dL_law_1407 ok_X10_way kw_1538 rfl rfl (Of.o (by assumption)) (by omega) rfl (Nat.le_of_ble_eq_true rfl) (r_way (d - 1) (by omega) n ok mem1 hRU a1 r1 hRI1.2.2.2.2.2.1) hnf (Or.inl rfl) (fun r ok2 mem2 hq => ?_)
  obtain ⟨rfl, rfl, rfl⟩ := hq
  have hF : rWay mem1 a1 = pOv (rWay mem a1) mem1 := by
    have h9 := rWay_ov mem mem1 a1
    rw [hov] at h9; exact h9
  rw [hF]
  exact pw_eqx 1800 (by decide) dL_law_1410 (KK ok _ (INV_ov hU hRU hG1 (RI_way hRI a1)))
set_option maxHeartbeats 4000000 in
set_option maxRecDepth 100000 in
theorem lc_along (nm : String) (L : Nat) (xs : Nat → Int) (d nf n : Nat) (hd : 8 ≤ d) (Q : pQt) (i : Int) (hi : 0 ≤ i ∧ i + 7 ≤ L) (ok : pO) (mem : pM) (hV : INV n ok mem) (hnf : n ≤ nf) (a1 : Int) (h1 : mX (miL nm L xs) (i + 1).toNat = a1) (r1 : -2147483648 ≤ a1 ∧ a1 ≤ 2147483647) (KK : ∀ ok' mem', INV n ok' mem' → PW (miL nm L xs) d nf 0 Q 1800 [(0, vr 1003), (1, vr 1), (2, vr 88), (3, vi i)] [] n ok' mem') : PW (miL nm L xs) d nf 0 Q 1415 [(0, vr 1003), (1, vr 1), (2, vr 88), (3, vi i)] [] n ok mem := by
  obtain ⟨hU, hRU, hG, hRI⟩ := hV
  have hP9 := hU.1
  have hR9 := hRU.1
  have hn133 := hU.2.2.2.2.2.2.2.2.2.2
  have hn4 := hU.2.2.1.1
  have hn88 := hRU.1.1.2.1
  refine pw_aload_n 1 rfl dL_law_1415 rfl ?_
  refine pw_aload_n 0 rfl dL_law_1416 rfl ?_
  refine pw_iload_n 3 rfl dL_law_1417 rfl ?_
  refine pw_iconst dL_law_1418 ?_
  refine pw_iadd dL_law_1419 ?_
  refine pw_sld rfl dL_law_1420 (by omega) (show i + 1 < ((L : Nat) : Int) by omega) ?_
  rw [h1]
  refine pw_callV (d' := d - 1) (As := [_]) (ci := 9) dL_law_1421 ok_X9_along kw_906 rfl rfl (Of.o (by assumption)) (by omega) rfl (Nat.le_of_ble_eq_true rfl) (p_along (d - 1) (by omega) n ok mem hU hG hRI a1 r1) hnf (Or.inl rfl) (fun r ok1 mem1 hq => ?_)
  obtain ⟨rfl, rfl, hRE, hG1⟩ := hq
  have hov := ov_id hRE
  have hRI1 := RI_re hRI hRE
  refine pw_aload_n 2 rfl dL_law_1424 rfl ?_
  refine pw_aload_n 0 rfl dL_law_1425 rfl ?_
  refine pw_iload_n 3 rfl dL_law_1426 rfl ?_
  refine pw_iconst dL_law_1427 ?_
  refine pw_iadd dL_law_1428 ?_
  refine pw_sld rfl dL_law_1429 (by omega) (show i + 1 < ((L : Nat) : Int) by omega) ?_
  rw [h1]
  refine pw_callV (d' := d - 1) (As := [_]) (ci := 10) dL_law_1430 ok_X10_along kw_1547 rfl rfl (Of.o (by assumption)) (by omega) rfl (Nat.le_of_ble_eq_true rfl) (r_along (d - 1) (by omega) n ok mem1 hRU a1 r1 hRI1.2.2.2.2.2.1) hnf (Or.inl rfl) (fun r ok2 mem2 hq => ?_)
  obtain ⟨rfl, rfl, rfl⟩ := hq
  have hF : rAlong mem1 a1 = pOv (rAlong mem a1) mem1 := by
    have h9 := rAlong_ov mem mem1 a1
    rw [hov] at h9; exact h9
  rw [hF]
  exact pw_eqx 1800 (by decide) dL_law_1433 (KK ok _ (INV_ov hU hRU hG1 (RI_along hRI a1)))
set_option maxHeartbeats 4000000 in
set_option maxRecDepth 100000 in
theorem lc_trap (nm : String) (L : Nat) (xs : Nat → Int) (d nf n : Nat) (hd : 8 ≤ d) (Q : pQt) (i : Int) (hi : 0 ≤ i ∧ i + 7 ≤ L) (ok : pO) (mem : pM) (hV : INV n ok mem) (hnf : n ≤ nf) (a1 : Int) (h1 : mX (miL nm L xs) (i + 1).toNat = a1) (r1 : -2147483648 ≤ a1 ∧ a1 ≤ 2147483647) (KK : ∀ ok' mem', INV n ok' mem' → PW (miL nm L xs) d nf 0 Q 1800 [(0, vr 1003), (1, vr 1), (2, vr 88), (3, vi i)] [] n ok' mem') : PW (miL nm L xs) d nf 0 Q 1438 [(0, vr 1003), (1, vr 1), (2, vr 88), (3, vi i)] [] n ok mem := by
  obtain ⟨hU, hRU, hG, hRI⟩ := hV
  have hP9 := hU.1
  have hR9 := hRU.1
  have hn133 := hU.2.2.2.2.2.2.2.2.2.2
  have hn4 := hU.2.2.1.1
  have hn88 := hRU.1.1.2.1
  refine pw_aload_n 1 rfl dL_law_1438 rfl ?_
  refine pw_aload_n 0 rfl dL_law_1439 rfl ?_
  refine pw_iload_n 3 rfl dL_law_1440 rfl ?_
  refine pw_iconst dL_law_1441 ?_
  refine pw_iadd dL_law_1442 ?_
  refine pw_sld rfl dL_law_1443 (by omega) (show i + 1 < ((L : Nat) : Int) by omega) ?_
  rw [h1]
  refine pw_callV (d' := d - 1) (As := [_]) (ci := 9) dL_law_1444 ok_X9_trap kw_910 rfl rfl (Of.o (by assumption)) (by omega) rfl (Nat.le_of_ble_eq_true rfl) (p_trap (d - 1) (by omega) n ok mem hU hG hRI a1 r1) hnf (Or.inl rfl) (fun r ok1 mem1 hq => ?_)
  obtain ⟨g9, hg9, rfl, rfl, hRE, hG1⟩ := hq
  have hov := ov_id hRE
  have hRI1 := RI_re hRI hRE
  have e88 := hRE 88 (by omega) (by omega)
  have e109 := hRE 109 (by omega) (by omega)
  have e111 := hRE 111 (by omega) (by omega)
  have erd : rdR mem1 = rdR mem := by have h9 := rdR_ov mem mem1; rw [hov] at h9; exact h9
  refine pw_aload_n 2 rfl dL_law_1447 rfl ?_
  refine pw_aload_n 0 rfl dL_law_1448 rfl ?_
  refine pw_iload_n 3 rfl dL_law_1449 rfl ?_
  refine pw_iconst dL_law_1450 ?_
  refine pw_iadd dL_law_1451 ?_
  refine pw_sld rfl dL_law_1452 (by omega) (show i + 1 < ((L : Nat) : Int) by omega) ?_
  rw [h1]
  refine pw_callV (d' := d - 1) (As := [_]) (ci := 10) dL_law_1453 ok_X10_trap kw_1551 rfl rfl (Of.o (by assumption)) (by omega) rfl (Nat.le_of_ble_eq_true rfl) (r_trap (d - 1) (by omega) n ok mem1 hRU a1 r1 hRI1.2.2.2.2.2.1 hRI1.2.2.2.2.2.2.1) hnf (Or.inl rfl) (fun r ok2 mem2 hq => ?_)
  obtain ⟨f9, hf9, rfl, rfl, hTM⟩ := hq
  rw [e88, e109, e111, erd] at hf9
  rw [e88] at hTM
  have hF : rTrap mem1 f9 a1 = rTrap mem f9 a1 := by
    have h9 := rTrap_ov mem mem1 f9 a1
    rw [hov] at h9; exact h9
  rw [hF, trap_u hRI hf9 hg9]
  exact pw_eqx 1800 (by decide) dL_law_1456 (KK ok _ (INV_TM hU hRU hRI hRE hTM hG1))
set_option maxHeartbeats 4000000 in
set_option maxRecDepth 100000 in
theorem lc_traps (nm : String) (L : Nat) (xs : Nat → Int) (d nf n : Nat) (hd : 8 ≤ d) (Q : pQt) (i : Int) (hi : 0 ≤ i ∧ i + 7 ≤ L) (ok : pO) (mem : pM) (hV : INV n ok mem) (hnf : n ≤ nf) (KK : ∀ ok' mem', INV n ok' mem' → PW (miL nm L xs) d nf 0 Q 1800 [(0, vr 1003), (1, vr 1), (2, vr 88), (3, vi i)] [] n ok' mem') : PW (miL nm L xs) d nf 0 Q 1461 [(0, vr 1003), (1, vr 1), (2, vr 88), (3, vi i)] [] n ok mem := by
  obtain ⟨hU, hRU, hG, hRI⟩ := hV
  have hP9 := hU.1
  have hR9 := hRU.1
  have hn133 := hU.2.2.2.2.2.2.2.2.2.2
  have hn4 := hU.2.2.1.1
  have hn88 := hRU.1.1.2.1
  refine pw_aload_n 1 rfl dL_law_1461 rfl ?_
  refine pw_callV (d' := d - 1) (As := []) (ci := 9) dL_law_1462 ok_X9_traps kw_935 rfl rfl (Of.o (by assumption)) (by omega) rfl (Nat.le_of_ble_eq_true rfl) (p_traps (d - 1) (by omega) n ok mem hU hG hRI  ) hnf (Or.inl rfl) (fun r ok1 mem1 hq => ?_)
  obtain ⟨g9, hg9, rfl, rfl, hRE, hG1⟩ := hq
  have hov := ov_id hRE
  have hRI1 := RI_re hRI hRE
  have e88 := hRE 88 (by omega) (by omega)
  have e109 := hRE 109 (by omega) (by omega)
  have e111 := hRE 111 (by omega) (by omega)
  have erd : rdR mem1 = rdR mem := by have h9 := rdR_ov mem mem1; rw [hov] at h9; exact h9
  refine pw_aload_n 2 rfl dL_law_1465 rfl ?_
  refine pw_callV (d' := d - 1) (As := []) (ci := 10) dL_law_1466 ok_X10_traps kw_1563 rfl rfl (Of.o (by assumption)) (by omega) rfl (Nat.le_of_ble_eq_true rfl) (r_traps (d - 1) (by omega) n ok mem1 hRU   hRI1.2.2.2.2.2.1 hRI1.2.2.2.2.2.2.1) hnf (Or.inl rfl) (fun r ok2 mem2 hq => ?_)
  obtain ⟨f9, hf9, rfl, rfl, hTM⟩ := hq
  rw [e88, e111, erd] at hf9
  rw [e88] at hTM
  have hF : rTraps mem1 f9 = rTraps mem f9 := by
    have h9 := rTraps_ov mem mem1 f9
    rw [hov] at h9; exact h9
  rw [hF, traps_u hRI hf9 hg9]
  exact pw_eqx 1800 (by decide) dL_law_1469 (KK ok _ (INV_TM hU hRU hRI hRE hTM hG1))
set_option maxHeartbeats 4000000 in
set_option maxRecDepth 100000 in
theorem lc_hint (nm : String) (L : Nat) (xs : Nat → Int) (d nf n : Nat) (hd : 8 ≤ d) (Q : pQt) (i : Int) (hi : 0 ≤ i ∧ i + 7 ≤ L) (ok : pO) (mem : pM) (hV : INV n ok mem) (hnf : n ≤ nf) (a1 : Int) (h1 : mX (miL nm L xs) (i + 1).toNat = a1) (r1 : -2147483648 ≤ a1 ∧ a1 ≤ 2147483647) (KK : ∀ ok' mem', INV n ok' mem' → PW (miL nm L xs) d nf 0 Q 1800 [(0, vr 1003), (1, vr 1), (2, vr 88), (3, vi i)] [] n ok' mem') : PW (miL nm L xs) d nf 0 Q 1474 [(0, vr 1003), (1, vr 1), (2, vr 88), (3, vi i)] [] n ok mem := by
  obtain ⟨hU, hRU, hG, hRI⟩ := hV
  have hP9 := hU.1
  have hR9 := hRU.1
  have hn133 := hU.2.2.2.2.2.2.2.2.2.2
  have hn4 := hU.2.2.1.1
  have hn88 := hRU.1.1.2.1
  refine pw_aload_n 1 rfl dL_law_1474 rfl ?_
  refine pw_aload_n 0 rfl dL_law_1475 rfl ?_
  refine pw_iload_n 3 rfl dL_law_1476 rfl ?_
  refine pw_iconst dL_law_1477 ?_
  refine pw_iadd dL_law_1478 ?_
  refine pw_sld rfl dL_law_1479 (by omega) (show i + 1 < ((L : Nat) : Int) by omega) ?_
  rw [h1]
  refine pw_callV (d' := d - 1) (As := [_]) (ci := 9) dL_law_1480 ok_X9_hint kw_943 rfl rfl (Of.o (by assumption)) (by omega) rfl (Nat.le_of_ble_eq_true rfl) (p_hint (d - 1) (by omega) n ok mem hU hG hRI a1 r1) hnf (Or.inl rfl) (fun r ok1 mem1 hq => ?_)
  obtain ⟨g9, hg9, rfl, rfl, hRE, hG1⟩ := hq
  have hov := ov_id hRE
  have hRI1 := RI_re hRI hRE
  have e88 := hRE 88 (by omega) (by omega)
  have e109 := hRE 109 (by omega) (by omega)
  have e111 := hRE 111 (by omega) (by omega)
  have erd : rdR mem1 = rdR mem := by have h9 := rdR_ov mem mem1; rw [hov] at h9; exact h9
  refine pw_aload_n 2 rfl dL_law_1483 rfl ?_
  refine pw_aload_n 0 rfl dL_law_1484 rfl ?_
  refine pw_iload_n 3 rfl dL_law_1485 rfl ?_
  refine pw_iconst dL_law_1486 ?_
  refine pw_iadd dL_law_1487 ?_
  refine pw_sld rfl dL_law_1488 (by omega) (show i + 1 < ((L : Nat) : Int) by omega) ?_
  rw [h1]
  refine pw_callV (d' := d - 1) (As := [_]) (ci := 10) dL_law_1489 ok_X10_hint kw_1567 rfl rfl (Of.o (by assumption)) (by omega) rfl (Nat.le_of_ble_eq_true rfl) (r_hint (d - 1) (by omega) n ok mem1 hRU a1 r1 (fun c c1 c2 => (hRI1.1 c c1 c2).ok) hRI1.2.2.2.2.2.1 hRI1.2.2.2.2.2.2.1) hnf (Or.inl rfl) (fun r ok2 mem2 hq => ?_)
  obtain ⟨f9, hf9, rfl, rfl, hTM⟩ := hq
  rw [e88, e111, erd] at hf9
  rw [e88] at hTM
  have hF : rHint mem1 f9 a1 = rHint mem f9 a1 := by
    have h9 := rHint_ov mem mem1 f9 a1
    rw [hov] at h9; exact h9
  rw [hF, hint_u hRI hf9 hg9]
  exact pw_eqx 1800 (by decide) dL_law_1492 (KK ok _ (INV_TM hU hRU hRI hRE hTM hG1))
set_option maxHeartbeats 4000000 in
set_option maxRecDepth 100000 in
theorem lc_mark (nm : String) (L : Nat) (xs : Nat → Int) (d nf n : Nat) (hd : 8 ≤ d) (Q : pQt) (i : Int) (hi : 0 ≤ i ∧ i + 7 ≤ L) (ok : pO) (mem : pM) (hV : INV n ok mem) (hnf : n ≤ nf) (a1 a2 a3 : Int) (h1 : mX (miL nm L xs) (i + 1).toNat = a1) (r1 : -2147483648 ≤ a1 ∧ a1 ≤ 2147483647) (h2 : mX (miL nm L xs) (i + 2).toNat = a2) (r2 : -2147483648 ≤ a2 ∧ a2 ≤ 2147483647) (h3 : mX (miL nm L xs) (i + 3).toNat = a3) (r3 : -2147483648 ≤ a3 ∧ a3 ≤ 2147483647) (KK : ∀ ok' mem', INV n ok' mem' → PW (miL nm L xs) d nf 0 Q 1800 [(0, vr 1003), (1, vr 1), (2, vr 88), (3, vi i)] [] n ok' mem') : PW (miL nm L xs) d nf 0 Q 1497 [(0, vr 1003), (1, vr 1), (2, vr 88), (3, vi i)] [] n ok mem := by
  obtain ⟨hU, hRU, hG, hRI⟩ := hV
  have hP9 := hU.1
  have hR9 := hRU.1
  have hn133 := hU.2.2.2.2.2.2.2.2.2.2
  have hn4 := hU.2.2.1.1
  have hn88 := hRU.1.1.2.1
  obtain ⟨v9, hv9⟩ : ∃ v9 : Int, v9 = if a3 = 0 then 0 else 1 := ⟨_, rfl⟩
  have hv01 : v9 = 0 ∨ v9 = 1 := by rw [hv9]; split <;> omega
  have rv9 : -2147483648 ≤ v9 ∧ v9 ≤ 2147483647 := by omega
  refine pw_aload_n 1 rfl dL_law_1497 rfl ?_
  refine pw_aload_n 0 rfl dL_law_1498 rfl ?_
  refine pw_iload_n 3 rfl dL_law_1499 rfl ?_
  refine pw_iconst dL_law_1500 ?_
  refine pw_iadd dL_law_1501 ?_
  refine pw_sld rfl dL_law_1502 (by omega) (show i + 1 < ((L : Nat) : Int) by omega) ?_
  rw [h1]
  refine pw_aload_n 0 rfl dL_law_1503 rfl ?_
  refine pw_iload_n 3 rfl dL_law_1504 rfl ?_
  refine pw_iconst dL_law_1505 ?_
  refine pw_iadd dL_law_1506 ?_
  refine pw_sld rfl dL_law_1507 (by omega) (show i + 2 < ((L : Nat) : Int) by omega) ?_
  rw [h2]
  refine pw_aload_n 0 rfl dL_law_1508 rfl ?_
  refine pw_iload_n 3 rfl dL_law_1509 rfl ?_
  refine pw_iconst dL_law_1510 ?_
  refine pw_iadd dL_law_1511 ?_
  refine pw_sld rfl dL_law_1512 (by omega) (show i + 3 < ((L : Nat) : Int) by omega) ?_
  rw [h3]
  refine pw_if_eq 1520 (by decide) dL_law_1513 (by omega) (fun c1513 => ?_) (fun c1513 => ?_)
  · skip
    obtain rfl : v9 = 0 := by rw [hv9, if_pos c1513]
    refine pw_iconst dL_law_1520 ?_
    refine pw_callV (d' := d - 1) (As := [_, _, _]) (ci := 9) dL_law_1521 ok_X9_mark kw_952 rfl rfl (Of.o (by assumption)) (by omega) rfl (Nat.le_of_ble_eq_true rfl) (p_mark (d - 1) (by omega) n ok mem hU hG hRI a1 a2 0 r1 r2 rv9 hv01) hnf (Or.inl rfl) (fun r ok1 mem1 hq => ?_)
    obtain ⟨rfl, rfl, hRE, hG1⟩ := hq
    have hov := ov_id hRE
    have hRI1 := RI_re hRI hRE
    refine pw_aload_n 2 rfl dL_law_1524 rfl ?_
    refine pw_aload_n 0 rfl dL_law_1525 rfl ?_
    refine pw_iload_n 3 rfl dL_law_1526 rfl ?_
    refine pw_iconst dL_law_1527 ?_
    refine pw_iadd dL_law_1528 ?_
    refine pw_sld rfl dL_law_1529 (by omega) (show i + 1 < ((L : Nat) : Int) by omega) ?_
    rw [h1]
    refine pw_aload_n 0 rfl dL_law_1530 rfl ?_
    refine pw_iload_n 3 rfl dL_law_1531 rfl ?_
    refine pw_iconst dL_law_1532 ?_
    refine pw_iadd dL_law_1533 ?_
    refine pw_sld rfl dL_law_1534 (by omega) (show i + 2 < ((L : Nat) : Int) by omega) ?_
    rw [h2]
    refine pw_aload_n 0 rfl dL_law_1535 rfl ?_
    refine pw_iload_n 3 rfl dL_law_1536 rfl ?_
    refine pw_iconst dL_law_1537 ?_
    refine pw_iadd dL_law_1538 ?_
    refine pw_sld rfl dL_law_1539 (by omega) (show i + 3 < ((L : Nat) : Int) by omega) ?_
    rw [h3]
    refine pw_if_eq 1547 (by decide) dL_law_1540 (by omega) (fun c1540 => ?_) (fun c1540 => ?_)
    · skip
      refine pw_iconst dL_law_1547 ?_
      refine pw_callV (d' := d - 1) (As := [_, _, _]) (ci := 10) dL_law_1548 ok_X10_mark kw_1571 rfl rfl (Of.o (by assumption)) (by omega) rfl (Nat.le_of_ble_eq_true rfl) (r_mark (d - 1) (by omega) n ok mem1 hRU a1 a2 0 r1 r2 rv9 hv01) hnf (Or.inl rfl) (fun r ok2 mem2 hq => ?_)
      obtain ⟨rfl, rfl, rfl⟩ := hq
      have hF : rMark mem1 a1 a2 0 = pOv (rMark mem a1 a2 0) mem1 := by
        have h9 := rMark_ov mem mem1 a1 a2 0
        rw [hov] at h9; exact h9
      rw [hF]
      exact pw_eqx 1800 (by decide) dL_law_1551 (KK ok _ (INV_ov hU hRU hG1 (RI_mark hRI a1 a2 0 hv01)))
    · skip
      exact absurd c1513 c1540
  · skip
    obtain rfl : v9 = 1 := by rw [hv9, if_neg c1513]
    refine pw_iconst dL_law_1516 ?_
    refine pw_goto 1521 (by decide) dL_law_1517 ?_
    refine pw_callV (d' := d - 1) (As := [_, _, _]) (ci := 9) dL_law_1521 ok_X9_mark kw_952 rfl rfl (Of.o (by assumption)) (by omega) rfl (Nat.le_of_ble_eq_true rfl) (p_mark (d - 1) (by omega) n ok mem hU hG hRI a1 a2 1 r1 r2 rv9 hv01) hnf (Or.inl rfl) (fun r ok1 mem1 hq => ?_)
    obtain ⟨rfl, rfl, hRE, hG1⟩ := hq
    have hov := ov_id hRE
    have hRI1 := RI_re hRI hRE
    refine pw_aload_n 2 rfl dL_law_1524 rfl ?_
    refine pw_aload_n 0 rfl dL_law_1525 rfl ?_
    refine pw_iload_n 3 rfl dL_law_1526 rfl ?_
    refine pw_iconst dL_law_1527 ?_
    refine pw_iadd dL_law_1528 ?_
    refine pw_sld rfl dL_law_1529 (by omega) (show i + 1 < ((L : Nat) : Int) by omega) ?_
    rw [h1]
    refine pw_aload_n 0 rfl dL_law_1530 rfl ?_
    refine pw_iload_n 3 rfl dL_law_1531 rfl ?_
    refine pw_iconst dL_law_1532 ?_
    refine pw_iadd dL_law_1533 ?_
    refine pw_sld rfl dL_law_1534 (by omega) (show i + 2 < ((L : Nat) : Int) by omega) ?_
    rw [h2]
    refine pw_aload_n 0 rfl dL_law_1535 rfl ?_
    refine pw_iload_n 3 rfl dL_law_1536 rfl ?_
    refine pw_iconst dL_law_1537 ?_
    refine pw_iadd dL_law_1538 ?_
    refine pw_sld rfl dL_law_1539 (by omega) (show i + 3 < ((L : Nat) : Int) by omega) ?_
    rw [h3]
    refine pw_if_eq 1547 (by decide) dL_law_1540 (by omega) (fun c1540 => ?_) (fun c1540 => ?_)
    · skip
      exact absurd c1540 c1513
    · skip
      refine pw_iconst dL_law_1543 ?_
      refine pw_goto 1548 (by decide) dL_law_1544 ?_
      refine pw_callV (d' := d - 1) (As := [_, _, _]) (ci := 10) dL_law_1548 ok_X10_mark kw_1571 rfl rfl (Of.o (by assumption)) (by omega) rfl (Nat.le_of_ble_eq_true rfl) (r_mark (d - 1) (by omega) n ok mem1 hRU a1 a2 1 r1 r2 rv9 hv01) hnf (Or.inl rfl) (fun r ok2 mem2 hq => ?_)
      obtain ⟨rfl, rfl, rfl⟩ := hq
      have hF : rMark mem1 a1 a2 1 = pOv (rMark mem a1 a2 1) mem1 := by
        have h9 := rMark_ov mem mem1 a1 a2 1
        rw [hov] at h9; exact h9
      rw [hF]
      exact pw_eqx 1800 (by decide) dL_law_1551 (KK ok _ (INV_ov hU hRU hG1 (RI_mark hRI a1 a2 1 hv01)))
set_option maxHeartbeats 4000000 in
set_option maxRecDepth 100000 in
theorem lc_markAll (nm : String) (L : Nat) (xs : Nat → Int) (d nf n : Nat) (hd : 8 ≤ d) (Q : pQt) (i : Int) (hi : 0 ≤ i ∧ i + 7 ≤ L) (ok : pO) (mem : pM) (hV : INV n ok mem) (hnf : n ≤ nf) (KK : ∀ ok' mem', INV n ok' mem' → PW (miL nm L xs) d nf 0 Q 1800 [(0, vr 1003), (1, vr 1), (2, vr 88), (3, vi i)] [] n ok' mem') : PW (miL nm L xs) d nf 0 Q 1556 [(0, vr 1003), (1, vr 1), (2, vr 88), (3, vi i)] [] n ok mem := by
  obtain ⟨hU, hRU, hG, hRI⟩ := hV
  have hP9 := hU.1
  have hR9 := hRU.1
  have hn133 := hU.2.2.2.2.2.2.2.2.2.2
  have hn4 := hU.2.2.1.1
  have hn88 := hRU.1.1.2.1
  refine pw_aload_n 1 rfl dL_law_1556 rfl ?_
  refine pw_callV (d' := d - 1) (As := []) (ci := 9) dL_law_1557 ok_X9_markAll kw_960 rfl rfl (Of.o (by assumption)) (by omega) rfl (Nat.le_of_ble_eq_true rfl) (p_markAll (d - 1) (by omega) n ok mem hU hG hRI  ) hnf (Or.inl rfl) (fun r ok1 mem1 hq => ?_)
  obtain ⟨rfl, rfl, hRE, hG1⟩ := hq
  have hov := ov_id hRE
  have hRI1 := RI_re hRI hRE
  refine pw_aload_n 2 rfl dL_law_1560 rfl ?_
  refine pw_callV (d' := d - 1) (As := []) (ci := 10) dL_law_1561 ok_X10_markAll kw_1576 rfl rfl (Of.o (by assumption)) (by omega) rfl (Nat.le_of_ble_eq_true rfl) (r_markAll (d - 1) (by omega) n ok mem1 hRU  ) hnf (Or.inl rfl) (fun r ok2 mem2 hq => ?_)
  obtain ⟨rfl, rfl, rfl⟩ := hq
  have hF : rMarkAll mem1 = pOv (rMarkAll mem) mem1 := by
    have h9 := rMarkAll_ov mem mem1
    rw [hov] at h9; exact h9
  rw [hF]
  exact pw_eqx 1800 (by decide) dL_law_1564 (KK ok _ (INV_ov hU hRU hG1 (RI_markAll hRI)))
set_option maxHeartbeats 4000000 in
set_option maxRecDepth 100000 in
theorem lc_marked (nm : String) (L : Nat) (xs : Nat → Int) (d nf n : Nat) (hd : 8 ≤ d) (Q : pQt) (i : Int) (hi : 0 ≤ i ∧ i + 7 ≤ L) (ok : pO) (mem : pM) (hV : INV n ok mem) (hnf : n ≤ nf) (a1 : Int) (h1 : mX (miL nm L xs) (i + 1).toNat = a1) (r1 : -2147483648 ≤ a1 ∧ a1 ≤ 2147483647) (KK : ∀ ok' mem', INV n ok' mem' → PW (miL nm L xs) d nf 0 Q 1800 [(0, vr 1003), (1, vr 1), (2, vr 88), (3, vi i)] [] n ok' mem') : PW (miL nm L xs) d nf 0 Q 1569 [(0, vr 1003), (1, vr 1), (2, vr 88), (3, vi i)] [] n ok mem := by
  obtain ⟨hU, hRU, hG, hRI⟩ := hV
  have hP9 := hU.1
  have hR9 := hRU.1
  have hn133 := hU.2.2.2.2.2.2.2.2.2.2
  have hn4 := hU.2.2.1.1
  have hn88 := hRU.1.1.2.1
  refine pw_aload_n 1 rfl dL_law_1569 rfl ?_
  refine pw_aload_n 0 rfl dL_law_1570 rfl ?_
  refine pw_iload_n 3 rfl dL_law_1571 rfl ?_
  refine pw_iconst dL_law_1572 ?_
  refine pw_iadd dL_law_1573 ?_
  refine pw_sld rfl dL_law_1574 (by omega) (show i + 1 < ((L : Nat) : Int) by omega) ?_
  rw [h1]
  refine pw_callV (d' := d - 1) (As := [_]) (ci := 9) dL_law_1575 ok_X9_marked kw_964 rfl rfl (Of.o (by assumption)) (by omega) rfl (Nat.le_of_ble_eq_true rfl) (p_marked (d - 1) (by omega) n ok mem hU hG hRI a1 r1) hnf (Or.inl rfl) (fun r ok1 mem1 hq => ?_)
  obtain ⟨rfl, rfl, hRE, hG1⟩ := hq
  have hov := ov_id hRE
  have hRI1 := RI_re hRI hRE
  refine pw_aload_n 2 rfl dL_law_1578 rfl ?_
  refine pw_aload_n 0 rfl dL_law_1579 rfl ?_
  refine pw_iload_n 3 rfl dL_law_1580 rfl ?_
  refine pw_iconst dL_law_1581 ?_
  refine pw_iadd dL_law_1582 ?_
  refine pw_sld rfl dL_law_1583 (by omega) (show i + 1 < ((L : Nat) : Int) by omega) ?_
  rw [h1]
  refine pw_callV (d' := d - 1) (As := [_]) (ci := 10) dL_law_1584 ok_X10_marked kw_1580 rfl rfl (Of.o (by assumption)) (by omega) rfl (Nat.le_of_ble_eq_true rfl) (r_marked (d - 1) (by omega) n ok mem1 hRU a1 r1) hnf (Or.inl rfl) (fun r ok2 mem2 hq => ?_)
  obtain ⟨rfl, rfl, rfl⟩ := hq
  have hF : rMarked mem1 a1 = pOv (rMarked mem a1) mem1 := by
    have h9 := rMarked_ov mem mem1 a1
    rw [hov] at h9; exact h9
  rw [hF]
  exact pw_eqx 1800 (by decide) dL_law_1587 (KK ok _ (INV_ov hU hRU hG1 (RI_marked hRI a1)))
set_option maxHeartbeats 4000000 in
set_option maxRecDepth 100000 in
theorem lc_shows (nm : String) (L : Nat) (xs : Nat → Int) (d nf n : Nat) (hd : 8 ≤ d) (Q : pQt) (i : Int) (hi : 0 ≤ i ∧ i + 7 ≤ L) (ok : pO) (mem : pM) (hV : INV n ok mem) (hnf : n ≤ nf) (a1 : Int) (h1 : mX (miL nm L xs) (i + 1).toNat = a1) (r1 : -2147483648 ≤ a1 ∧ a1 ≤ 2147483647) (KK : ∀ ok' mem', INV n ok' mem' → PW (miL nm L xs) d nf 0 Q 1800 [(0, vr 1003), (1, vr 1), (2, vr 88), (3, vi i)] [] n ok' mem') : PW (miL nm L xs) d nf 0 Q 1592 [(0, vr 1003), (1, vr 1), (2, vr 88), (3, vi i)] [] n ok mem := by
  obtain ⟨hU, hRU, hG, hRI⟩ := hV
  have hP9 := hU.1
  have hR9 := hRU.1
  have hn133 := hU.2.2.2.2.2.2.2.2.2.2
  have hn4 := hU.2.2.1.1
  have hn88 := hRU.1.1.2.1
  refine pw_aload_n 1 rfl dL_law_1592 rfl ?_
  refine pw_aload_n 0 rfl dL_law_1593 rfl ?_
  refine pw_iload_n 3 rfl dL_law_1594 rfl ?_
  refine pw_iconst dL_law_1595 ?_
  refine pw_iadd dL_law_1596 ?_
  refine pw_sld rfl dL_law_1597 (by omega) (show i + 1 < ((L : Nat) : Int) by omega) ?_
  rw [h1]
  refine pw_callV (d' := d - 1) (As := [_]) (ci := 9) dL_law_1598 ok_X9_shows kw_968 rfl rfl (Of.o (by assumption)) (by omega) rfl (Nat.le_of_ble_eq_true rfl) (p_shows (d - 1) (by omega) n ok mem hU hG hRI a1 r1) hnf (Or.inl rfl) (fun r ok1 mem1 hq => ?_)
  obtain ⟨rfl, rfl, hRE, hG1⟩ := hq
  have hov := ov_id hRE
  have hRI1 := RI_re hRI hRE
  refine pw_aload_n 2 rfl dL_law_1601 rfl ?_
  refine pw_aload_n 0 rfl dL_law_1602 rfl ?_
  refine pw_iload_n 3 rfl dL_law_1603 rfl ?_
  refine pw_iconst dL_law_1604 ?_
  refine pw_iadd dL_law_1605 ?_
  refine pw_sld rfl dL_law_1606 (by omega) (show i + 1 < ((L : Nat) : Int) by omega) ?_
  rw [h1]
  refine pw_callV (d' := d - 1) (As := [_]) (ci := 10) dL_law_1607 ok_X10_shows kw_1584 rfl rfl (Of.o (by assumption)) (by omega) rfl (Nat.le_of_ble_eq_true rfl) (r_shows (d - 1) (by omega) n ok mem1 hRU a1 r1 (fun c c1 c2 => (hRI1.1 c c1 c2).ok) (by have := hRI1.2.2.1; omega)) hnf (Or.inl rfl) (fun r ok2 mem2 hq => ?_)
  obtain ⟨rfl, rfl, heq⟩ := hq
  have hF : rShows mem1 a1 = pOv (rShows mem a1) mem1 := by
    have h9 := rShows_ov mem mem1 a1
    rw [hov] at h9; exact h9
  rw [hF] at heq ⊢
  exact pw_eqx 1800 (by decide) dL_law_1610 (KK ok _ (INV_eq hU hRU hG1 (RI_shows hRI a1) heq))
set_option maxHeartbeats 4000000 in
set_option maxRecDepth 100000 in
theorem lc_shown (nm : String) (L : Nat) (xs : Nat → Int) (d nf n : Nat) (hd : 8 ≤ d) (Q : pQt) (i : Int) (hi : 0 ≤ i ∧ i + 7 ≤ L) (ok : pO) (mem : pM) (hV : INV n ok mem) (hnf : n ≤ nf) (a1 : Int) (h1 : mX (miL nm L xs) (i + 1).toNat = a1) (r1 : -2147483648 ≤ a1 ∧ a1 ≤ 2147483647) (KK : ∀ ok' mem', INV n ok' mem' → PW (miL nm L xs) d nf 0 Q 1800 [(0, vr 1003), (1, vr 1), (2, vr 88), (3, vi i)] [] n ok' mem') : PW (miL nm L xs) d nf 0 Q 1615 [(0, vr 1003), (1, vr 1), (2, vr 88), (3, vi i)] [] n ok mem := by
  obtain ⟨hU, hRU, hG, hRI⟩ := hV
  have hP9 := hU.1
  have hR9 := hRU.1
  have hn133 := hU.2.2.2.2.2.2.2.2.2.2
  have hn4 := hU.2.2.1.1
  have hn88 := hRU.1.1.2.1
  refine pw_aload_n 1 rfl dL_law_1615 rfl ?_
  refine pw_aload_n 0 rfl dL_law_1616 rfl ?_
  refine pw_iload_n 3 rfl dL_law_1617 rfl ?_
  refine pw_iconst dL_law_1618 ?_
  refine pw_iadd dL_law_1619 ?_
  refine pw_sld rfl dL_law_1620 (by omega) (show i + 1 < ((L : Nat) : Int) by omega) ?_
  rw [h1]
  refine pw_callV (d' := d - 1) (As := [_]) (ci := 9) dL_law_1621 ok_X9_shown kw_984 rfl rfl (Of.o (by assumption)) (by omega) rfl (Nat.le_of_ble_eq_true rfl) (p_shown (d - 1) (by omega) n ok mem hU hG hRI a1 r1) hnf (Or.inl rfl) (fun r ok1 mem1 hq => ?_)
  obtain ⟨rfl, rfl, hRE, hG1⟩ := hq
  have hov := ov_id hRE
  have hRI1 := RI_re hRI hRE
  refine pw_aload_n 2 rfl dL_law_1624 rfl ?_
  refine pw_aload_n 0 rfl dL_law_1625 rfl ?_
  refine pw_iload_n 3 rfl dL_law_1626 rfl ?_
  refine pw_iconst dL_law_1627 ?_
  refine pw_iadd dL_law_1628 ?_
  refine pw_sld rfl dL_law_1629 (by omega) (show i + 1 < ((L : Nat) : Int) by omega) ?_
  rw [h1]
  refine pw_callV (d' := d - 1) (As := [_]) (ci := 10) dL_law_1630 ok_X10_shown kw_1596 rfl rfl (Of.o (by assumption)) (by omega) rfl (Nat.le_of_ble_eq_true rfl) (r_shown (d - 1) (by omega) n ok mem1 hRU a1 r1) hnf (Or.inl rfl) (fun r ok2 mem2 hq => ?_)
  obtain ⟨rfl, rfl, rfl⟩ := hq
  have hF : rShown mem1 a1 = pOv (rShown mem a1) mem1 := by
    have h9 := rShown_ov mem mem1 a1
    rw [hov] at h9; exact h9
  rw [hF]
  exact pw_eqx 1800 (by decide) dL_law_1633 (KK ok _ (INV_ov hU hRU hG1 (RI_shown hRI a1)))
set_option maxHeartbeats 4000000 in
set_option maxRecDepth 100000 in
theorem lc_alike (nm : String) (L : Nat) (xs : Nat → Int) (d nf n : Nat) (hd : 8 ≤ d) (Q : pQt) (i : Int) (hi : 0 ≤ i ∧ i + 7 ≤ L) (ok : pO) (mem : pM) (hV : INV n ok mem) (hnf : n ≤ nf) (a1 a2 : Int) (h1 : mX (miL nm L xs) (i + 1).toNat = a1) (r1 : -2147483648 ≤ a1 ∧ a1 ≤ 2147483647) (h2 : mX (miL nm L xs) (i + 2).toNat = a2) (r2 : -2147483648 ≤ a2 ∧ a2 ≤ 2147483647) (KK : ∀ ok' mem', INV n ok' mem' → PW (miL nm L xs) d nf 0 Q 1800 [(0, vr 1003), (1, vr 1), (2, vr 88), (3, vi i)] [] n ok' mem') : PW (miL nm L xs) d nf 0 Q 1638 [(0, vr 1003), (1, vr 1), (2, vr 88), (3, vi i)] [] n ok mem := by
  obtain ⟨hU, hRU, hG, hRI⟩ := hV
  have hP9 := hU.1
  have hR9 := hRU.1
  have hn133 := hU.2.2.2.2.2.2.2.2.2.2
  have hn4 := hU.2.2.1.1
  have hn88 := hRU.1.1.2.1
  refine pw_aload_n 1 rfl dL_law_1638 rfl ?_
  refine pw_aload_n 0 rfl dL_law_1639 rfl ?_
  refine pw_iload_n 3 rfl dL_law_1640 rfl ?_
  refine pw_iconst dL_law_1641 ?_
  refine pw_iadd dL_law_1642 ?_
  refine pw_sld rfl dL_law_1643 (by omega) (show i + 1 < ((L : Nat) : Int) by omega) ?_
  rw [h1]
  refine pw_aload_n 0 rfl dL_law_1644 rfl ?_
  refine pw_iload_n 3 rfl dL_law_1645 rfl ?_
  refine pw_iconst dL_law_1646 ?_
  refine pw_iadd dL_law_1647 ?_
  refine pw_sld rfl dL_law_1648 (by omega) (show i + 2 < ((L : Nat) : Int) by omega) ?_
  rw [h2]
  refine pw_callV (d' := d - 1) (As := [_, _]) (ci := 9) dL_law_1649 ok_X9_alike kw_988 rfl rfl (Of.o (by assumption)) (by omega) rfl (Nat.le_of_ble_eq_true rfl) (p_alike (d - 1) (by omega) n ok mem hU hG hRI a1 a2 r1 r2) hnf (Or.inl rfl) (fun r ok1 mem1 hq => ?_)
  obtain ⟨rfl, rfl, hRE, hG1⟩ := hq
  have hov := ov_id hRE
  have hRI1 := RI_re hRI hRE
  refine pw_aload_n 2 rfl dL_law_1652 rfl ?_
  refine pw_aload_n 0 rfl dL_law_1653 rfl ?_
  refine pw_iload_n 3 rfl dL_law_1654 rfl ?_
  refine pw_iconst dL_law_1655 ?_
  refine pw_iadd dL_law_1656 ?_
  refine pw_sld rfl dL_law_1657 (by omega) (show i + 1 < ((L : Nat) : Int) by omega) ?_
  rw [h1]
  refine pw_aload_n 0 rfl dL_law_1658 rfl ?_
  refine pw_iload_n 3 rfl dL_law_1659 rfl ?_
  refine pw_iconst dL_law_1660 ?_
  refine pw_iadd dL_law_1661 ?_
  refine pw_sld rfl dL_law_1662 (by omega) (show i + 2 < ((L : Nat) : Int) by omega) ?_
  rw [h2]
  refine pw_callV (d' := d - 1) (As := [_, _]) (ci := 10) dL_law_1663 ok_X10_alike kw_1600 rfl rfl (Of.o (by assumption)) (by omega) rfl (Nat.le_of_ble_eq_true rfl) (r_alike (d - 1) (by omega) n ok mem1 hRU a1 a2 r1 r2 hRI1.1) hnf (Or.inl rfl) (fun r ok2 mem2 hq => ?_)
  obtain ⟨rfl, rfl, hfr⟩ := hq
  have hF : rAlike mem1 a1 a2 = rAlike mem a1 a2 := by
    have h9 := rAlike_ov mem mem1 a1 a2
    rw [hov] at h9; exact h9
  rw [hF]
  exact pw_eqx 1800 (by decide) dL_law_1666 (KK ok _ (INV_n hU hRU hG1 hRI (fun a b1 b2 _ _ b5 b6 => (hfr a b5 b6).trans (hRE a (by omega) (by omega))) (fun k _ => by rw [hfr 88 (by omega) (by omega), hRE 88 (by omega) (by omega)]) (fun a ha => hfr a (by omega) (by omega))))
set_option maxHeartbeats 4000000 in
set_option maxRecDepth 100000 in
theorem lc_export (nm : String) (L : Nat) (xs : Nat → Int) (d nf n : Nat) (hd : 8 ≤ d) (Q : pQt) (i : Int) (hi : 0 ≤ i ∧ i + 7 ≤ L) (ok : pO) (mem : pM) (hV : INV n ok mem) (hnf : n ≤ nf) (a1 : Int) (h1 : mX (miL nm L xs) (i + 1).toNat = a1) (r1 : -2147483648 ≤ a1 ∧ a1 ≤ 2147483647) (KK : ∀ ok' mem', INV n ok' mem' → PW (miL nm L xs) d nf 0 Q 1800 [(0, vr 1003), (1, vr 1), (2, vr 88), (3, vi i)] [] n ok' mem') : PW (miL nm L xs) d nf 0 Q 1671 [(0, vr 1003), (1, vr 1), (2, vr 88), (3, vi i)] [] n ok mem := by
  obtain ⟨hU, hRU, hG, hRI⟩ := hV
  have hP9 := hU.1
  have hR9 := hRU.1
  have hn133 := hU.2.2.2.2.2.2.2.2.2.2
  have hn4 := hU.2.2.1.1
  have hn88 := hRU.1.1.2.1
  refine pw_aload_n 1 rfl dL_law_1671 rfl ?_
  refine pw_aload_n 0 rfl dL_law_1672 rfl ?_
  refine pw_iload_n 3 rfl dL_law_1673 rfl ?_
  refine pw_iconst dL_law_1674 ?_
  refine pw_iadd dL_law_1675 ?_
  refine pw_sld rfl dL_law_1676 (by omega) (show i + 1 < ((L : Nat) : Int) by omega) ?_
  rw [h1]
  refine pw_callV (d' := d - 1) (As := [_]) (ci := 9) dL_law_1677 ok_X9_export kw_1013 rfl rfl (Of.o (by assumption)) (by omega) rfl (Nat.le_of_ble_eq_true rfl) (p_export (d - 1) (by omega) n ok mem hU hG hRI a1 r1) hnf (Or.inl rfl) (fun r ok1 mem1 hq => ?_)
  obtain ⟨rfl, hRE, hq1⟩ := hq
  obtain ⟨x9, hr9⟩ : ∃ x9 : Int, r = some (vi x9) := by
    rcases hq1 with y | y
    · exact ⟨_, y.2.1⟩
    · exact ⟨_, y.2.1⟩
  subst hr9
  have hov := ov_id hRE
  have hRI1 := RI_re hRI hRE
  have hwA : wA mem1 a1 = wA mem a1 := by have h9 := wA_ov mem mem1 a1; rw [hov] at h9; exact h9
  refine pw_aload_n 2 rfl dL_law_1680 rfl ?_
  refine pw_aload_n 0 rfl dL_law_1681 rfl ?_
  refine pw_iload_n 3 rfl dL_law_1682 rfl ?_
  refine pw_iconst dL_law_1683 ?_
  refine pw_iadd dL_law_1684 ?_
  refine pw_sld rfl dL_law_1685 (by omega) (show i + 1 < ((L : Nat) : Int) by omega) ?_
  rw [h1]
  refine pw_callV (d' := d - 1) (As := [_]) (ci := 10) dL_law_1686 ok_X10_export kw_1608 rfl rfl (Of.o (by assumption)) (by omega) rfl (Nat.le_of_ble_eq_true rfl) (r_export (d - 1) (by omega) n ok mem1 hRU a1 r1 hRI1.1) hnf (Or.inl rfl) (fun r ok2 mem2 hq => ?_)
  have hq2 := hq
  clear hq
  rcases hq1 with y1 | y1
  · obtain ⟨n1, e1, G1⟩ := y1
    simp only [Option.some.injEq, Sum.inl.injEq] at e1
    subst e1
    rcases hq2 with y2 | y2
    · obtain ⟨-, rfl, rfl, rfl⟩ := y2
      exact pw_eqx 1800 (by decide) dL_law_1689 (KK ok _ (INV_n hU hRU G1 hRI (fun a b1 b2 _ _ _ _ => hRE a (by omega) (by omega)) (fun k _ => by rw [hRE 88 (by omega) (by omega)]) (fun a _ => rfl)))
    · exact absurd y2.1 n1
  · obtain ⟨n1, e1, G1⟩ := y1
    simp only [Option.some.injEq, Sum.inl.injEq] at e1
    subst e1
    rcases hq2 with y2 | y2
    · exact absurd n1 y2.1
    · obtain ⟨-, rfl, rfl, hx⟩ := y2
      rw [hwA]
      have hX := EXM_ov hx hRE hwA
      exact pw_eqx 1800 (by decide) dL_law_1689 (KK ok _ (INV_n hU hRU (G1 _ hX) (RI_exm hRI hX) (fun a b1 b2 _ _ _ _ => (ov_in _ _ (by omega) (by omega)).symm) (fun k _ => by rw [ov_in _ _ (by omega) (by omega)]) (fun a ha => hx.1 a (by omega) (by omega) (by omega))))
set_option maxHeartbeats 4000000 in
set_option maxRecDepth 100000 in
theorem lc_out (nm : String) (L : Nat) (xs : Nat → Int) (d nf n : Nat) (hd : 8 ≤ d) (Q : pQt) (i : Int) (hi : 0 ≤ i ∧ i + 7 ≤ L) (ok : pO) (mem : pM) (hV : INV n ok mem) (hnf : n ≤ nf) (a1 : Int) (h1 : mX (miL nm L xs) (i + 1).toNat = a1) (r1 : -2147483648 ≤ a1 ∧ a1 ≤ 2147483647) (KK : ∀ ok' mem', INV n ok' mem' → PW (miL nm L xs) d nf 0 Q 1800 [(0, vr 1003), (1, vr 1), (2, vr 88), (3, vi i)] [] n ok' mem') : PW (miL nm L xs) d nf 0 Q 1694 [(0, vr 1003), (1, vr 1), (2, vr 88), (3, vi i)] [] n ok mem := by
  obtain ⟨hU, hRU, hG, hRI⟩ := hV
  have hP9 := hU.1
  have hR9 := hRU.1
  have hn133 := hU.2.2.2.2.2.2.2.2.2.2
  have hn4 := hU.2.2.1.1
  have hn88 := hRU.1.1.2.1
  refine pw_aload_n 1 rfl dL_law_1694 rfl ?_
  refine pw_aload_n 0 rfl dL_law_1695 rfl ?_
  refine pw_iload_n 3 rfl dL_law_1696 rfl ?_
  refine pw_iconst dL_law_1697 ?_
  refine pw_iadd dL_law_1698 ?_
  refine pw_sld rfl dL_law_1699 (by omega) (show i + 1 < ((L : Nat) : Int) by omega) ?_
  rw [h1]
  refine pw_callV (d' := d - 1) (As := [_]) (ci := 9) dL_law_1700 ok_X9_out kw_1017 rfl rfl (Of.o (by assumption)) (by omega) rfl (Nat.le_of_ble_eq_true rfl) (p_out (d - 1) (by omega) n ok mem hU hG hRI a1 r1) hnf (Or.inl rfl) (fun r ok1 mem1 hq => ?_)
  obtain ⟨rfl, rfl, rfl⟩ := hq
  have hRI1 := hRI
  refine pw_aload_n 2 rfl dL_law_1703 rfl ?_
  refine pw_aload_n 0 rfl dL_law_1704 rfl ?_
  refine pw_iload_n 3 rfl dL_law_1705 rfl ?_
  refine pw_iconst dL_law_1706 ?_
  refine pw_iadd dL_law_1707 ?_
  refine pw_sld rfl dL_law_1708 (by omega) (show i + 1 < ((L : Nat) : Int) by omega) ?_
  rw [h1]
  refine pw_callV (d' := d - 1) (As := [_]) (ci := 10) dL_law_1709 ok_X10_out kw_1612 rfl rfl (Of.o (by assumption)) (by omega) rfl (Nat.le_of_ble_eq_true rfl) (r_out (d - 1) (by omega) n ok mem hRU a1 r1 (by obtain ⟨l, hl1, hl2, hl3, hl4⟩ := hG.2.2.2.2.2.2.1; omega)) hnf (Or.inl rfl) (fun r ok2 mem2 hq => ?_)
  obtain ⟨rfl, rfl, rfl⟩ := hq
  exact pw_eqx 1800 (by decide) dL_law_1712 (KK ok _ ⟨hU, hRU, hG, hRI⟩)
set_option maxHeartbeats 4000000 in
set_option maxRecDepth 100000 in
theorem lc_digest (nm : String) (L : Nat) (xs : Nat → Int) (d nf n : Nat) (hd : 8 ≤ d) (Q : pQt) (i : Int) (hi : 0 ≤ i ∧ i + 7 ≤ L) (ok : pO) (mem : pM) (hV : INV n ok mem) (hnf : n ≤ nf) (a1 : Int) (h1 : mX (miL nm L xs) (i + 1).toNat = a1) (r1 : -2147483648 ≤ a1 ∧ a1 ≤ 2147483647) (KK : ∀ ok' mem', INV n ok' mem' → PW (miL nm L xs) d nf 0 Q 1800 [(0, vr 1003), (1, vr 1), (2, vr 88), (3, vi i)] [] n ok' mem') : PW (miL nm L xs) d nf 0 Q 1717 [(0, vr 1003), (1, vr 1), (2, vr 88), (3, vi i)] [] n ok mem := by
  obtain ⟨hU, hRU, hG, hRI⟩ := hV
  have hP9 := hU.1
  have hR9 := hRU.1
  have hn133 := hU.2.2.2.2.2.2.2.2.2.2
  have hn4 := hU.2.2.1.1
  have hn88 := hRU.1.1.2.1
  refine pw_aload_n 1 rfl dL_law_1717 rfl ?_
  refine pw_aload_n 0 rfl dL_law_1718 rfl ?_
  refine pw_iload_n 3 rfl dL_law_1719 rfl ?_
  refine pw_iconst dL_law_1720 ?_
  refine pw_iadd dL_law_1721 ?_
  refine pw_sld rfl dL_law_1722 (by omega) (show i + 1 < ((L : Nat) : Int) by omega) ?_
  rw [h1]
  refine pw_callV (d' := d - 1) (As := [_]) (ci := 9) dL_law_1723 ok_X9_digest kw_1021 rfl rfl (Of.o (by assumption)) (by omega) rfl (Nat.le_of_ble_eq_true rfl) (p_digest (d - 1) (by omega) n ok mem hU hG hRI a1 r1) hnf (Or.inl rfl) (fun r ok1 mem1 hq => ?_)
  obtain ⟨rfl, rfl, hRE, hG1⟩ := hq
  have hov := ov_id hRE
  have hRI1 := RI_re hRI hRE
  refine pw_aload_n 2 rfl dL_law_1726 rfl ?_
  refine pw_aload_n 0 rfl dL_law_1727 rfl ?_
  refine pw_iload_n 3 rfl dL_law_1728 rfl ?_
  refine pw_iconst dL_law_1729 ?_
  refine pw_iadd dL_law_1730 ?_
  refine pw_sld rfl dL_law_1731 (by omega) (show i + 1 < ((L : Nat) : Int) by omega) ?_
  rw [h1]
  refine pw_callV (d' := d - 1) (As := [_]) (ci := 10) dL_law_1732 ok_X10_digest kw_1616 rfl rfl (Of.o (by assumption)) (by omega) rfl (Nat.le_of_ble_eq_true rfl) (r_digest (d - 1) (by omega) n ok mem1 hRU a1 r1 hRI1.1) hnf (Or.inl rfl) (fun r ok2 mem2 hq => ?_)
  obtain ⟨rfl, rfl, hfr⟩ := hq
  have hF : rDigest mem1 a1 = rDigest mem a1 := by
    have h9 := rDigest_ov mem mem1 a1
    rw [hov] at h9; exact h9
  rw [hF]
  refine pw_lcmpx dL_law_1735 ?_
  refine pw_if_eq 1800 (by decide) dL_law_1736 (by omega) (fun _ => ?_) (fun z => absurd rfl z)
  exact KK ok _ (INV_n hU hRU hG1 hRI (fun a b1 b2 _ _ b5 _ => (hfr a b5).trans (hRE a (by omega) (by omega))) (fun k _ => by rw [hfr 88 (by omega), hRE 88 (by omega) (by omega)]) (fun a ha => hfr a (by omega)))
set_option maxHeartbeats 4000000 in
set_option maxRecDepth 100000 in
theorem lc_trace (nm : String) (L : Nat) (xs : Nat → Int) (d nf n : Nat) (hd : 8 ≤ d) (Q : pQt) (i : Int) (hi : 0 ≤ i ∧ i + 7 ≤ L) (ok : pO) (mem : pM) (hV : INV n ok mem) (hnf : n ≤ nf) (a1 : Int) (h1 : mX (miL nm L xs) (i + 1).toNat = a1) (r1 : -2147483648 ≤ a1 ∧ a1 ≤ 2147483647) (KK : ∀ ok' mem', INV n ok' mem' → PW (miL nm L xs) d nf 0 Q 1800 [(0, vr 1003), (1, vr 1), (2, vr 88), (3, vi i)] [] n ok' mem') : PW (miL nm L xs) d nf 0 Q 1741 [(0, vr 1003), (1, vr 1), (2, vr 88), (3, vi i)] [] n ok mem := by
  obtain ⟨hU, hRU, hG, hRI⟩ := hV
  have hP9 := hU.1
  have hR9 := hRU.1
  have hn133 := hU.2.2.2.2.2.2.2.2.2.2
  have hn4 := hU.2.2.1.1
  have hn88 := hRU.1.1.2.1
  refine pw_aload_n 1 rfl dL_law_1741 rfl ?_
  refine pw_aload_n 0 rfl dL_law_1742 rfl ?_
  refine pw_iload_n 3 rfl dL_law_1743 rfl ?_
  refine pw_iconst dL_law_1744 ?_
  refine pw_iadd dL_law_1745 ?_
  refine pw_sld rfl dL_law_1746 (by omega) (show i + 1 < ((L : Nat) : Int) by omega) ?_
  rw [h1]
  refine pw_callV (d' := d - 1) (As := [_]) (ci := 9) dL_law_1747 ok_X9_trace kw_1031 rfl rfl (Of.o (by assumption)) (by omega) rfl (Nat.le_of_ble_eq_true rfl) (p_trace (d - 1) (by omega) n ok mem hU hG hRI a1 r1) hnf (Or.inl rfl) (fun r ok1 mem1 hq => ?_)
  obtain ⟨rfl, rfl, rfl⟩ := hq
  have hRI1 := hRI
  refine pw_aload_n 2 rfl dL_law_1750 rfl ?_
  refine pw_aload_n 0 rfl dL_law_1751 rfl ?_
  refine pw_iload_n 3 rfl dL_law_1752 rfl ?_
  refine pw_iconst dL_law_1753 ?_
  refine pw_iadd dL_law_1754 ?_
  refine pw_sld rfl dL_law_1755 (by omega) (show i + 1 < ((L : Nat) : Int) by omega) ?_
  rw [h1]
  refine pw_callV (d' := d - 1) (As := [_]) (ci := 10) dL_law_1756 ok_X10_trace kw_1622 rfl rfl (Of.o (by assumption)) (by omega) rfl (Nat.le_of_ble_eq_true rfl) (r_trace (d - 1) (by omega) n ok mem hRU a1 r1 hRI.2.2.1.1) hnf (Or.inl rfl) (fun r ok2 mem2 hq => ?_)
  obtain ⟨rfl, rfl, rfl⟩ := hq
  exact pw_eqx 1800 (by decide) dL_law_1759 (KK ok _ ⟨hU, hRU, hG, hRI⟩)
set_option maxHeartbeats 4000000 in
set_option maxRecDepth 100000 in
theorem lc_count (nm : String) (L : Nat) (xs : Nat → Int) (d nf n : Nat) (hd : 8 ≤ d) (Q : pQt) (i : Int) (hi : 0 ≤ i ∧ i + 7 ≤ L) (ok : pO) (mem : pM) (hV : INV n ok mem) (hnf : n ≤ nf) (a1 : Int) (h1 : mX (miL nm L xs) (i + 1).toNat = a1) (r1 : -2147483648 ≤ a1 ∧ a1 ≤ 2147483647) (KK : ∀ ok' mem', INV n ok' mem' → PW (miL nm L xs) d nf 0 Q 1800 [(0, vr 1003), (1, vr 1), (2, vr 88), (3, vi i)] [] n ok' mem') : PW (miL nm L xs) d nf 0 Q 1764 [(0, vr 1003), (1, vr 1), (2, vr 88), (3, vi i)] [] n ok mem := by
  obtain ⟨hU, hRU, hG, hRI⟩ := hV
  have hP9 := hU.1
  have hR9 := hRU.1
  have hn133 := hU.2.2.2.2.2.2.2.2.2.2
  have hn4 := hU.2.2.1.1
  have hn88 := hRU.1.1.2.1
  refine pw_aload_n 1 rfl dL_law_1764 rfl ?_
  refine pw_aload_n 0 rfl dL_law_1765 rfl ?_
  refine pw_iload_n 3 rfl dL_law_1766 rfl ?_
  refine pw_iconst dL_law_1767 ?_
  refine pw_iadd dL_law_1768 ?_
  refine pw_sld rfl dL_law_1769 (by omega) (show i + 1 < ((L : Nat) : Int) by omega) ?_
  rw [h1]
  refine pw_callV (d' := d - 1) (As := [_]) (ci := 9) dL_law_1770 ok_X9_count kw_1039 rfl rfl (Of.o (by assumption)) (by omega) rfl (Nat.le_of_ble_eq_true rfl) (p_count (d - 1) (by omega) n ok mem hU hG hRI a1 r1) hnf (Or.inl rfl) (fun r ok1 mem1 hq => ?_)
  obtain ⟨rfl, rfl, rfl⟩ := hq
  have hRI1 := hRI
  refine pw_aload_n 2 rfl dL_law_1773 rfl ?_
  refine pw_aload_n 0 rfl dL_law_1774 rfl ?_
  refine pw_iload_n 3 rfl dL_law_1775 rfl ?_
  refine pw_iconst dL_law_1776 ?_
  refine pw_iadd dL_law_1777 ?_
  refine pw_sld rfl dL_law_1778 (by omega) (show i + 1 < ((L : Nat) : Int) by omega) ?_
  rw [h1]
  refine pw_callV (d' := d - 1) (As := [_]) (ci := 10) dL_law_1779 ok_X10_count kw_1626 rfl rfl (Of.o (by assumption)) (by omega) rfl (Nat.le_of_ble_eq_true rfl) (r_count (d - 1) (by omega) n ok mem hRU a1 r1) hnf (Or.inl rfl) (fun r ok2 mem2 hq => ?_)
  obtain ⟨rfl, rfl, rfl⟩ := hq
  exact pw_eqx 1800 (by decide) dL_law_1782 (KK ok _ ⟨hU, hRU, hG, hRI⟩)
set_option maxHeartbeats 4000000 in
set_option maxRecDepth 100000 in
theorem lc_status (nm : String) (L : Nat) (xs : Nat → Int) (d nf n : Nat) (hd : 8 ≤ d) (Q : pQt) (i : Int) (hi : 0 ≤ i ∧ i + 7 ≤ L) (ok : pO) (mem : pM) (hV : INV n ok mem) (hnf : n ≤ nf) (KK : ∀ ok' mem', INV n ok' mem' → PW (miL nm L xs) d nf 0 Q 1800 [(0, vr 1003), (1, vr 1), (2, vr 88), (3, vi i)] [] n ok' mem') : PW (miL nm L xs) d nf 0 Q 1787 [(0, vr 1003), (1, vr 1), (2, vr 88), (3, vi i)] [] n ok mem := by
  obtain ⟨hU, hRU, hG, hRI⟩ := hV
  have hP9 := hU.1
  have hR9 := hRU.1
  have hn133 := hU.2.2.2.2.2.2.2.2.2.2
  have hn4 := hU.2.2.1.1
  have hn88 := hRU.1.1.2.1
  refine pw_aload_n 1 rfl dL_law_1787 rfl ?_
  refine pw_callV (d' := d - 1) (As := []) (ci := 9) dL_law_1788 ok_X9_status kw_1050 rfl rfl (Of.o (by assumption)) (by omega) rfl (Nat.le_of_ble_eq_true rfl) (p_status (d - 1) (by omega) n ok mem hU hG hRI) hnf (Or.inl rfl) (fun r ok1 mem1 hq => ?_)
  obtain ⟨rfl, rfl, rfl⟩ := hq
  have hRI1 := hRI
  refine pw_aload_n 2 rfl dL_law_1791 rfl ?_
  refine pw_callV (d' := d - 1) (As := []) (ci := 10) dL_law_1792 ok_X10_status kw_1630 rfl rfl (Of.o (by assumption)) (by omega) rfl (Nat.le_of_ble_eq_true rfl) (r_status (d - 1) (by omega) n ok mem hRU) hnf (Or.inl rfl) (fun r ok2 mem2 hq => ?_)
  obtain ⟨rfl, rfl, rfl⟩ := hq
  exact pw_eqx 1800 (by decide) dL_law_1795 (KK ok _ ⟨hU, hRU, hG, hRI⟩)

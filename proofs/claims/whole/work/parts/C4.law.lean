abbrev kLaw : MI := (yL_law, cL_law, 4, ret)
/-- the law answers true -/
def QL : Option AV → Sh → Me → Prop := fun v _ _ => v = some (0, 1)
abbrev LV (lx : List Int) (pc : Nat) (i : Int) (S : Sh) (M : Me) (n1 n2 : Nat) : Prop := V kLaw 600000 7302250 95 (some lx) QL pc [(3, 0), (1, 0), (1, 429), (0, i)] [] S M n1 n2
/-- behind a call -/
abbrev LNX (lx : List Int) (i : Int) (n1 n2 : Nat) : Prop := ∀ (x y z : Int) (M : Me), INV M → LV lx 1541 i (Sf x y z) M n1 n2
theorem cmp_self {w : Int} : cmp64 w w = 0 := by
  unfold cmp64
  rw [if_neg (Int.lt_irrefl w), if_pos rfl]
theorem law_0 {lx : List Int} {M : Me} {x y z i : Int} {n1 n2 : Nat} (hI : INV M) (hi : 0 ≤ i ∧ i + 6 ≤ lx.length) (hl : lx.length ≤ 3072) (hn : n1 ≤ 600000 ∧ n2 ≤ 7302250) (nx : LNX lx i n1 n2) : LV lx 224 i (Sf x y z) M n1 n2 := by
  obtain ⟨v, x', y', z', N1, N2, hc, hr, hJ⟩ := (op_person hI : OpR kX10_person kX11_person 1 1 [(0, lx.getD (i + 1).toNat 0), (0, lx.getD (i + 2).toNat 0)] M) x y z
  refine r_aload_n dL_law_224 rfl (by decide) ?_
  refine r_sload_n dL_law_225 rfl ?_
  refine r_iload_n dL_law_226 rfl ?_
  refine r_iconst dL_law_227 (by decide) ?_
  refine r_iadd dL_law_228 (w32_id (by omega)) ?_
  refine r_sld dL_law_229 (by omega) (by omega) rfl ?_
  refine r_sload_n dL_law_230 rfl ?_
  refine r_iload_n dL_law_231 rfl ?_
  refine r_iconst dL_law_232 (by decide) ?_
  refine r_iadd dL_law_233 (w32_id (by omega)) ?_
  refine r_sld dL_law_234 (by omega) (by omega) rfl ?_
  refine r_cq2 dL_law_235 clL_13 sf0 (by decide) (by decide) rfl (by decide) (Nat.le_of_ble_eq_true rfl) hc hn (fun v9 S9 M9 q hok => ?_)
  obtain ⟨rfl, rfl, rfl⟩ := q
  obtain ⟨w, rfl, -⟩ := hok
  refine r_aload_n dL_law_238 rfl (by decide) ?_
  refine r_sload_n dL_law_239 rfl ?_
  refine r_iload_n dL_law_240 rfl ?_
  refine r_iconst dL_law_241 (by decide) ?_
  refine r_iadd dL_law_242 (w32_id (by omega)) ?_
  refine r_sld dL_law_243 (by omega) (by omega) rfl ?_
  refine r_sload_n dL_law_244 rfl ?_
  refine r_iload_n dL_law_245 rfl ?_
  refine r_iconst dL_law_246 (by decide) ?_
  refine r_iadd dL_law_247 (w32_id (by omega)) ?_
  refine r_sld dL_law_248 (by omega) (by omega) rfl ?_
  refine r_cq2 dL_law_249 clL_17 sf429 (by decide) (by decide) rfl (by decide) (Nat.le_of_ble_eq_true rfl) hr hn (fun v9 S9 M9 q hok => ?_)
  obtain ⟨rfl, rfl, rfl⟩ := q
  exact r_icmp_eq (tgt := 1541) dL_law_252 (by decide) (fun _ => nx _ _ _ _ hJ) (fun hq => absurd rfl hq)
theorem law_1 {lx : List Int} {M : Me} {x y z i : Int} {n1 n2 : Nat} (hI : INV M) (hi : 0 ≤ i ∧ i + 6 ≤ lx.length) (hl : lx.length ≤ 3072) (hn : n1 ≤ 600000 ∧ n2 ≤ 7302250) (nx : LNX lx i n1 n2) : LV lx 257 i (Sf x y z) M n1 n2 := by
  obtain ⟨v, x', y', z', N1, N2, hc, hr, hJ⟩ := (op_crease hI : OpR kX10_crease kX11_crease 2 2 [(0, lx.getD (i + 1).toNat 0), (0, lx.getD (i + 2).toNat 0), (0, lx.getD (i + 3).toNat 0), (0, lx.getD (i + 4).toNat 0)] M) x y z
  refine r_aload_n dL_law_257 rfl (by decide) ?_
  refine r_sload_n dL_law_258 rfl ?_
  refine r_iload_n dL_law_259 rfl ?_
  refine r_iconst dL_law_260 (by decide) ?_
  refine r_iadd dL_law_261 (w32_id (by omega)) ?_
  refine r_sld dL_law_262 (by omega) (by omega) rfl ?_
  refine r_sload_n dL_law_263 rfl ?_
  refine r_iload_n dL_law_264 rfl ?_
  refine r_iconst dL_law_265 (by decide) ?_
  refine r_iadd dL_law_266 (w32_id (by omega)) ?_
  refine r_sld dL_law_267 (by omega) (by omega) rfl ?_
  refine r_sload_n dL_law_268 rfl ?_
  refine r_iload_n dL_law_269 rfl ?_
  refine r_iconst dL_law_270 (by decide) ?_
  refine r_iadd dL_law_271 (w32_id (by omega)) ?_
  refine r_sld dL_law_272 (by omega) (by omega) rfl ?_
  refine r_sload_n dL_law_273 rfl ?_
  refine r_iload_n dL_law_274 rfl ?_
  refine r_iconst dL_law_275 (by decide) ?_
  refine r_iadd dL_law_276 (w32_id (by omega)) ?_
  refine r_sld dL_law_277 (by omega) (by omega) rfl ?_
  refine r_cq4 dL_law_278 clL_18 sf0 (by decide) (by decide) rfl (by decide) (Nat.le_of_ble_eq_true rfl) hc hn (fun v9 S9 M9 q hok => ?_)
  obtain ⟨rfl, rfl, rfl⟩ := q
  obtain ⟨w, rfl, -⟩ := hok
  refine r_aload_n dL_law_281 rfl (by decide) ?_
  refine r_sload_n dL_law_282 rfl ?_
  refine r_iload_n dL_law_283 rfl ?_
  refine r_iconst dL_law_284 (by decide) ?_
  refine r_iadd dL_law_285 (w32_id (by omega)) ?_
  refine r_sld dL_law_286 (by omega) (by omega) rfl ?_
  refine r_sload_n dL_law_287 rfl ?_
  refine r_iload_n dL_law_288 rfl ?_
  refine r_iconst dL_law_289 (by decide) ?_
  refine r_iadd dL_law_290 (w32_id (by omega)) ?_
  refine r_sld dL_law_291 (by omega) (by omega) rfl ?_
  refine r_sload_n dL_law_292 rfl ?_
  refine r_iload_n dL_law_293 rfl ?_
  refine r_iconst dL_law_294 (by decide) ?_
  refine r_iadd dL_law_295 (w32_id (by omega)) ?_
  refine r_sld dL_law_296 (by omega) (by omega) rfl ?_
  refine r_sload_n dL_law_297 rfl ?_
  refine r_iload_n dL_law_298 rfl ?_
  refine r_iconst dL_law_299 (by decide) ?_
  refine r_iadd dL_law_300 (w32_id (by omega)) ?_
  refine r_sld dL_law_301 (by omega) (by omega) rfl ?_
  refine r_cq4 dL_law_302 clL_22 sf429 (by decide) (by decide) rfl (by decide) (Nat.le_of_ble_eq_true rfl) hr hn (fun v9 S9 M9 q hok => ?_)
  obtain ⟨rfl, rfl, rfl⟩ := q
  exact r_icmp_eq (tgt := 1541) dL_law_305 (by decide) (fun _ => nx _ _ _ _ hJ) (fun hq => absurd rfl hq)
theorem law_2 {lx : List Int} {M : Me} {x y z i : Int} {n1 n2 : Nat} (hI : INV M) (hi : 0 ≤ i ∧ i + 6 ≤ lx.length) (hl : lx.length ≤ 3072) (hn : n1 ≤ 600000 ∧ n2 ≤ 7302250) (nx : LNX lx i n1 n2) : LV lx 310 i (Sf x y z) M n1 n2 := by
  obtain ⟨v, x', y', z', N1, N2, hc, hr, hJ⟩ := (op_tie hI : OpR kX10_tie kX11_tie 2 2 [(0, lx.getD (i + 1).toNat 0), (0, lx.getD (i + 2).toNat 0)] M) x y z
  refine r_aload_n dL_law_310 rfl (by decide) ?_
  refine r_sload_n dL_law_311 rfl ?_
  refine r_iload_n dL_law_312 rfl ?_
  refine r_iconst dL_law_313 (by decide) ?_
  refine r_iadd dL_law_314 (w32_id (by omega)) ?_
  refine r_sld dL_law_315 (by omega) (by omega) rfl ?_
  refine r_sload_n dL_law_316 rfl ?_
  refine r_iload_n dL_law_317 rfl ?_
  refine r_iconst dL_law_318 (by decide) ?_
  refine r_iadd dL_law_319 (w32_id (by omega)) ?_
  refine r_sld dL_law_320 (by omega) (by omega) rfl ?_
  refine r_cq2 dL_law_321 clL_23 sf0 (by decide) (by decide) rfl (by decide) (Nat.le_of_ble_eq_true rfl) hc hn (fun v9 S9 M9 q hok => ?_)
  obtain ⟨rfl, rfl, rfl⟩ := q
  obtain ⟨w, rfl, -⟩ := hok
  refine r_aload_n dL_law_324 rfl (by decide) ?_
  refine r_sload_n dL_law_325 rfl ?_
  refine r_iload_n dL_law_326 rfl ?_
  refine r_iconst dL_law_327 (by decide) ?_
  refine r_iadd dL_law_328 (w32_id (by omega)) ?_
  refine r_sld dL_law_329 (by omega) (by omega) rfl ?_
  refine r_sload_n dL_law_330 rfl ?_
  refine r_iload_n dL_law_331 rfl ?_
  refine r_iconst dL_law_332 (by decide) ?_
  refine r_iadd dL_law_333 (w32_id (by omega)) ?_
  refine r_sld dL_law_334 (by omega) (by omega) rfl ?_
  refine r_cq2 dL_law_335 clL_27 sf429 (by decide) (by decide) rfl (by decide) (Nat.le_of_ble_eq_true rfl) hr hn (fun v9 S9 M9 q hok => ?_)
  obtain ⟨rfl, rfl, rfl⟩ := q
  exact r_icmp_eq (tgt := 1541) dL_law_338 (by decide) (fun _ => nx _ _ _ _ hJ) (fun hq => absurd rfl hq)
theorem law_3 {lx : List Int} {M : Me} {x y z i : Int} {n1 n2 : Nat} (hI : INV M) (hi : 0 ≤ i ∧ i + 6 ≤ lx.length) (hl : lx.length ≤ 3072) (hn : n1 ≤ 600000 ∧ n2 ≤ 7302250) (nx : LNX lx i n1 n2) : LV lx 343 i (Sf x y z) M n1 n2 := by
  obtain ⟨v, x', y', z', N1, N2, hc, hr, hJ⟩ := (op_heat hI : OpR kX10_heat kX11_heat 1 1 [(0, lx.getD (i + 1).toNat 0)] M) x y z
  refine r_aload_n dL_law_343 rfl (by decide) ?_
  refine r_sload_n dL_law_344 rfl ?_
  refine r_iload_n dL_law_345 rfl ?_
  refine r_iconst dL_law_346 (by decide) ?_
  refine r_iadd dL_law_347 (w32_id (by omega)) ?_
  refine r_sld dL_law_348 (by omega) (by omega) rfl ?_
  refine r_cq1 dL_law_349 clL_28 sf0 (by decide) (by decide) rfl (by decide) (Nat.le_of_ble_eq_true rfl) hc hn (fun v9 S9 M9 q hok => ?_)
  obtain ⟨rfl, rfl, rfl⟩ := q
  obtain ⟨w, rfl, -⟩ := hok
  refine r_aload_n dL_law_352 rfl (by decide) ?_
  refine r_sload_n dL_law_353 rfl ?_
  refine r_iload_n dL_law_354 rfl ?_
  refine r_iconst dL_law_355 (by decide) ?_
  refine r_iadd dL_law_356 (w32_id (by omega)) ?_
  refine r_sld dL_law_357 (by omega) (by omega) rfl ?_
  refine r_cq1 dL_law_358 clL_32 sf429 (by decide) (by decide) rfl (by decide) (Nat.le_of_ble_eq_true rfl) hr hn (fun v9 S9 M9 q hok => ?_)
  obtain ⟨rfl, rfl, rfl⟩ := q
  exact r_icmp_eq (tgt := 1541) dL_law_361 (by decide) (fun _ => nx _ _ _ _ hJ) (fun hq => absurd rfl hq)
theorem law_4 {lx : List Int} {M : Me} {x y z i : Int} {n1 n2 : Nat} (hI : INV M) (hi : 0 ≤ i ∧ i + 6 ≤ lx.length) (hl : lx.length ≤ 3072) (hn : n1 ≤ 600000 ∧ n2 ≤ 7302250) (nx : LNX lx i n1 n2) : LV lx 366 i (Sf x y z) M n1 n2 := by
  obtain ⟨v, x', y', z', N1, N2, hc, hr, hJ⟩ := (op_feed hI : OpR kX10_feed kX11_feed 1 1 [(0, lx.getD (i + 1).toNat 0), (0, lx.getD (i + 2).toNat 0), (0, lx.getD (i + 3).toNat 0), (0, lx.getD (i + 4).toNat 0), (0, lx.getD (i + 5).toNat 0)] M) x y z
  refine r_aload_n dL_law_366 rfl (by decide) ?_
  refine r_sload_n dL_law_367 rfl ?_
  refine r_iload_n dL_law_368 rfl ?_
  refine r_iconst dL_law_369 (by decide) ?_
  refine r_iadd dL_law_370 (w32_id (by omega)) ?_
  refine r_sld dL_law_371 (by omega) (by omega) rfl ?_
  refine r_sload_n dL_law_372 rfl ?_
  refine r_iload_n dL_law_373 rfl ?_
  refine r_iconst dL_law_374 (by decide) ?_
  refine r_iadd dL_law_375 (w32_id (by omega)) ?_
  refine r_sld dL_law_376 (by omega) (by omega) rfl ?_
  refine r_sload_n dL_law_377 rfl ?_
  refine r_iload_n dL_law_378 rfl ?_
  refine r_iconst dL_law_379 (by decide) ?_
  refine r_iadd dL_law_380 (w32_id (by omega)) ?_
  refine r_sld dL_law_381 (by omega) (by omega) rfl ?_
  refine r_sload_n dL_law_382 rfl ?_
  refine r_iload_n dL_law_383 rfl ?_
  refine r_iconst dL_law_384 (by decide) ?_
  refine r_iadd dL_law_385 (w32_id (by omega)) ?_
  refine r_sld dL_law_386 (by omega) (by omega) rfl ?_
  refine r_sload_n dL_law_387 rfl ?_
  refine r_iload_n dL_law_388 rfl ?_
  refine r_iconst dL_law_389 (by decide) ?_
  refine r_iadd dL_law_390 (w32_id (by omega)) ?_
  refine r_sld dL_law_391 (by omega) (by omega) rfl ?_
  refine r_cq5 dL_law_392 clL_33 sf0 (by decide) (by decide) rfl (by decide) (Nat.le_of_ble_eq_true rfl) hc hn (fun v9 S9 M9 q hok => ?_)
  obtain ⟨rfl, rfl, rfl⟩ := q
  obtain ⟨w, rfl, -⟩ := hok
  refine r_aload_n dL_law_395 rfl (by decide) ?_
  refine r_sload_n dL_law_396 rfl ?_
  refine r_iload_n dL_law_397 rfl ?_
  refine r_iconst dL_law_398 (by decide) ?_
  refine r_iadd dL_law_399 (w32_id (by omega)) ?_
  refine r_sld dL_law_400 (by omega) (by omega) rfl ?_
  refine r_sload_n dL_law_401 rfl ?_
  refine r_iload_n dL_law_402 rfl ?_
  refine r_iconst dL_law_403 (by decide) ?_
  refine r_iadd dL_law_404 (w32_id (by omega)) ?_
  refine r_sld dL_law_405 (by omega) (by omega) rfl ?_
  refine r_sload_n dL_law_406 rfl ?_
  refine r_iload_n dL_law_407 rfl ?_
  refine r_iconst dL_law_408 (by decide) ?_
  refine r_iadd dL_law_409 (w32_id (by omega)) ?_
  refine r_sld dL_law_410 (by omega) (by omega) rfl ?_
  refine r_sload_n dL_law_411 rfl ?_
  refine r_iload_n dL_law_412 rfl ?_
  refine r_iconst dL_law_413 (by decide) ?_
  refine r_iadd dL_law_414 (w32_id (by omega)) ?_
  refine r_sld dL_law_415 (by omega) (by omega) rfl ?_
  refine r_sload_n dL_law_416 rfl ?_
  refine r_iload_n dL_law_417 rfl ?_
  refine r_iconst dL_law_418 (by decide) ?_
  refine r_iadd dL_law_419 (w32_id (by omega)) ?_
  refine r_sld dL_law_420 (by omega) (by omega) rfl ?_
  refine r_cq5 dL_law_421 clL_37 sf429 (by decide) (by decide) rfl (by decide) (Nat.le_of_ble_eq_true rfl) hr hn (fun v9 S9 M9 q hok => ?_)
  obtain ⟨rfl, rfl, rfl⟩ := q
  exact r_icmp_eq (tgt := 1541) dL_law_424 (by decide) (fun _ => nx _ _ _ _ hJ) (fun hq => absurd rfl hq)
theorem law_5 {lx : List Int} {M : Me} {x y z i : Int} {n1 n2 : Nat} (hI : INV M) (hi : 0 ≤ i ∧ i + 6 ≤ lx.length) (hl : lx.length ≤ 3072) (hn : n1 ≤ 600000 ∧ n2 ≤ 7302250) (nx : LNX lx i n1 n2) : LV lx 429 i (Sf x y z) M n1 n2 := by
  obtain ⟨v, x', y', z', N1, N2, hc, hr, hJ⟩ := (op_end hI : OpR kX10_end kX11_end 1 1 [(0, lx.getD (i + 1).toNat 0)] M) x y z
  refine r_aload_n dL_law_429 rfl (by decide) ?_
  refine r_sload_n dL_law_430 rfl ?_
  refine r_iload_n dL_law_431 rfl ?_
  refine r_iconst dL_law_432 (by decide) ?_
  refine r_iadd dL_law_433 (w32_id (by omega)) ?_
  refine r_sld dL_law_434 (by omega) (by omega) rfl ?_
  refine r_cq1 dL_law_435 clL_38 sf0 (by decide) (by decide) rfl (by decide) (Nat.le_of_ble_eq_true rfl) hc hn (fun v9 S9 M9 q hok => ?_)
  obtain ⟨rfl, rfl, rfl⟩ := q
  obtain ⟨w, rfl, -⟩ := hok
  refine r_aload_n dL_law_438 rfl (by decide) ?_
  refine r_sload_n dL_law_439 rfl ?_
  refine r_iload_n dL_law_440 rfl ?_
  refine r_iconst dL_law_441 (by decide) ?_
  refine r_iadd dL_law_442 (w32_id (by omega)) ?_
  refine r_sld dL_law_443 (by omega) (by omega) rfl ?_
  refine r_cq1 dL_law_444 clL_42 sf429 (by decide) (by decide) rfl (by decide) (Nat.le_of_ble_eq_true rfl) hr hn (fun v9 S9 M9 q hok => ?_)
  obtain ⟨rfl, rfl, rfl⟩ := q
  exact r_icmp_eq (tgt := 1541) dL_law_447 (by decide) (fun _ => nx _ _ _ _ hJ) (fun hq => absurd rfl hq)
theorem law_6 {lx : List Int} {M : Me} {x y z i : Int} {n1 n2 : Nat} (hI : INV M) (hi : 0 ≤ i ∧ i + 6 ≤ lx.length) (hl : lx.length ≤ 3072) (hn : n1 ≤ 600000 ∧ n2 ≤ 7302250) (nx : LNX lx i n1 n2) : LV lx 452 i (Sf x y z) M n1 n2 := by
  obtain ⟨v, x', y', z', N1, N2, hc, hr, hJ⟩ := (op_text hI : OpR kX10_text kX11_text 94 13 [] M) x y z
  refine r_aload_n dL_law_452 rfl (by decide) ?_
  refine r_cq0 dL_law_453 clL_43 sf0 (by decide) (by decide) rfl (by decide) (Nat.le_of_ble_eq_true rfl) hc hn (fun v9 S9 M9 q hok => ?_)
  obtain ⟨rfl, rfl, rfl⟩ := q
  obtain ⟨w, rfl, -⟩ := hok
  refine r_aload_n dL_law_456 rfl (by decide) ?_
  refine r_cq0 dL_law_457 clL_47 sf429 (by decide) (by decide) rfl (by decide) (Nat.le_of_ble_eq_true rfl) hr hn (fun v9 S9 M9 q hok => ?_)
  obtain ⟨rfl, rfl, rfl⟩ := q
  exact r_icmp_eq (tgt := 1541) dL_law_460 (by decide) (fun _ => nx _ _ _ _ hJ) (fun hq => absurd rfl hq)
theorem law_7 {lx : List Int} {M : Me} {x y z i : Int} {n1 n2 : Nat} (hI : INV M) (hi : 0 ≤ i ∧ i + 6 ≤ lx.length) (hl : lx.length ≤ 3072) (hn : n1 ≤ 600000 ∧ n2 ≤ 7302250) (nx : LNX lx i n1 n2) : LV lx 465 i (Sf x y z) M n1 n2 := by
  obtain ⟨v, x', y', z', N1, N2, hc, hr, hJ⟩ := (op_fault hI : OpR kX10_fault kX11_fault 0 0 [(0, lx.getD (i + 1).toNat 0)] M) x y z
  refine r_aload_n dL_law_465 rfl (by decide) ?_
  refine r_sload_n dL_law_466 rfl ?_
  refine r_iload_n dL_law_467 rfl ?_
  refine r_iconst dL_law_468 (by decide) ?_
  refine r_iadd dL_law_469 (w32_id (by omega)) ?_
  refine r_sld dL_law_470 (by omega) (by omega) rfl ?_
  refine r_cq1 dL_law_471 clL_48 sf0 (by decide) (by decide) rfl (by decide) (Nat.le_of_ble_eq_true rfl) hc hn (fun v9 S9 M9 q hok => ?_)
  obtain ⟨rfl, rfl, rfl⟩ := q
  obtain ⟨w, rfl, -⟩ := hok
  refine r_aload_n dL_law_474 rfl (by decide) ?_
  refine r_sload_n dL_law_475 rfl ?_
  refine r_iload_n dL_law_476 rfl ?_
  refine r_iconst dL_law_477 (by decide) ?_
  refine r_iadd dL_law_478 (w32_id (by omega)) ?_
  refine r_sld dL_law_479 (by omega) (by omega) rfl ?_
  refine r_cq1 dL_law_480 clL_51 sf429 (by decide) (by decide) rfl (by decide) (Nat.le_of_ble_eq_true rfl) hr hn (fun v9 S9 M9 q hok => ?_)
  obtain ⟨rfl, rfl, rfl⟩ := q
  exact r_icmp_eq (tgt := 1541) dL_law_483 (by decide) (fun _ => nx _ _ _ _ hJ) (fun hq => absurd rfl hq)
theorem law_8 {lx : List Int} {M : Me} {x y z i : Int} {n1 n2 : Nat} (hI : INV M) (hi : 0 ≤ i ∧ i + 6 ≤ lx.length) (hl : lx.length ≤ 3072) (hn : n1 ≤ 600000 ∧ n2 ≤ 7302250) (nx : LNX lx i n1 n2) : LV lx 488 i (Sf x y z) M n1 n2 := by
  obtain ⟨v, x', y', z', N1, N2, hc, hr, hJ⟩ := (op_by hI : OpR kX10_by kX11_by 0 1 [(0, lx.getD (i + 1).toNat 0)] M) x y z
  refine r_aload_n dL_law_488 rfl (by decide) ?_
  refine r_sload_n dL_law_489 rfl ?_
  refine r_iload_n dL_law_490 rfl ?_
  refine r_iconst dL_law_491 (by decide) ?_
  refine r_iadd dL_law_492 (w32_id (by omega)) ?_
  refine r_sld dL_law_493 (by omega) (by omega) rfl ?_
  refine r_cq1 dL_law_494 clL_52 sf0 (by decide) (by decide) rfl (by decide) (Nat.le_of_ble_eq_true rfl) hc hn (fun v9 S9 M9 q hok => ?_)
  obtain ⟨rfl, rfl, rfl⟩ := q
  obtain ⟨w, rfl, -⟩ := hok
  refine r_aload_n dL_law_497 rfl (by decide) ?_
  refine r_sload_n dL_law_498 rfl ?_
  refine r_iload_n dL_law_499 rfl ?_
  refine r_iconst dL_law_500 (by decide) ?_
  refine r_iadd dL_law_501 (w32_id (by omega)) ?_
  refine r_sld dL_law_502 (by omega) (by omega) rfl ?_
  refine r_cq1 dL_law_503 clL_55 sf429 (by decide) (by decide) rfl (by decide) (Nat.le_of_ble_eq_true rfl) hr hn (fun v9 S9 M9 q hok => ?_)
  obtain ⟨rfl, rfl, rfl⟩ := q
  exact r_icmp_eq (tgt := 1541) dL_law_506 (by decide) (fun _ => nx _ _ _ _ hJ) (fun hq => absurd rfl hq)
theorem law_9 {lx : List Int} {M : Me} {x y z i : Int} {n1 n2 : Nat} (hI : INV M) (hi : 0 ≤ i ∧ i + 6 ≤ lx.length) (hl : lx.length ≤ 3072) (hn : n1 ≤ 600000 ∧ n2 ≤ 7302250) (nx : LNX lx i n1 n2) : LV lx 511 i (Sf x y z) M n1 n2 := by
  obtain ⟨v, x', y', z', N1, N2, hc, hr, hJ⟩ := (op_press hI : OpR kX10_press kX11_press 7 8 [(0, lx.getD (i + 1).toNat 0)] M) x y z
  refine r_aload_n dL_law_511 rfl (by decide) ?_
  refine r_sload_n dL_law_512 rfl ?_
  refine r_iload_n dL_law_513 rfl ?_
  refine r_iconst dL_law_514 (by decide) ?_
  refine r_iadd dL_law_515 (w32_id (by omega)) ?_
  refine r_sld dL_law_516 (by omega) (by omega) rfl ?_
  refine r_cq1 dL_law_517 clL_56 sf0 (by decide) (by decide) rfl (by decide) (Nat.le_of_ble_eq_true rfl) hc hn (fun v9 S9 M9 q hok => ?_)
  obtain ⟨rfl, rfl, rfl⟩ := q
  obtain ⟨w, rfl, -⟩ := hok
  refine r_aload_n dL_law_520 rfl (by decide) ?_
  refine r_sload_n dL_law_521 rfl ?_
  refine r_iload_n dL_law_522 rfl ?_
  refine r_iconst dL_law_523 (by decide) ?_
  refine r_iadd dL_law_524 (w32_id (by omega)) ?_
  refine r_sld dL_law_525 (by omega) (by omega) rfl ?_
  refine r_cq1 dL_law_526 clL_59 sf429 (by decide) (by decide) rfl (by decide) (Nat.le_of_ble_eq_true rfl) hr hn (fun v9 S9 M9 q hok => ?_)
  obtain ⟨rfl, rfl, rfl⟩ := q
  exact r_icmp_eq (tgt := 1541) dL_law_529 (by decide) (fun _ => nx _ _ _ _ hJ) (fun hq => absurd rfl hq)
theorem law_10 {lx : List Int} {M : Me} {x y z i : Int} {n1 n2 : Nat} (hI : INV M) (hi : 0 ≤ i ∧ i + 6 ≤ lx.length) (hl : lx.length ≤ 3072) (hn : n1 ≤ 600000 ∧ n2 ≤ 7302250) (nx : LNX lx i n1 n2) : LV lx 534 i (Sf x y z) M n1 n2 := by
  obtain ⟨v, x', y', z', N1, N2, hc, hr, hJ⟩ := (op_pattern hI : OpR kX10_pattern kX11_pattern 4 5 [(0, lx.getD (i + 1).toNat 0)] M) x y z
  refine r_aload_n dL_law_534 rfl (by decide) ?_
  refine r_sload_n dL_law_535 rfl ?_
  refine r_iload_n dL_law_536 rfl ?_
  refine r_iconst dL_law_537 (by decide) ?_
  refine r_iadd dL_law_538 (w32_id (by omega)) ?_
  refine r_sld dL_law_539 (by omega) (by omega) rfl ?_
  refine r_cq1 dL_law_540 clL_60 sf0 (by decide) (by decide) rfl (by decide) (Nat.le_of_ble_eq_true rfl) hc hn (fun v9 S9 M9 q hok => ?_)
  obtain ⟨rfl, rfl, rfl⟩ := q
  obtain ⟨w, rfl, -⟩ := hok
  refine r_aload_n dL_law_543 rfl (by decide) ?_
  refine r_sload_n dL_law_544 rfl ?_
  refine r_iload_n dL_law_545 rfl ?_
  refine r_iconst dL_law_546 (by decide) ?_
  refine r_iadd dL_law_547 (w32_id (by omega)) ?_
  refine r_sld dL_law_548 (by omega) (by omega) rfl ?_
  refine r_cq1 dL_law_549 clL_63 sf429 (by decide) (by decide) rfl (by decide) (Nat.le_of_ble_eq_true rfl) hr hn (fun v9 S9 M9 q hok => ?_)
  obtain ⟨rfl, rfl, rfl⟩ := q
  exact r_icmp_eq (tgt := 1541) dL_law_552 (by decide) (fun _ => nx _ _ _ _ hJ) (fun hq => absurd rfl hq)
theorem law_11 {lx : List Int} {M : Me} {x y z i : Int} {n1 n2 : Nat} (hI : INV M) (hi : 0 ≤ i ∧ i + 6 ≤ lx.length) (hl : lx.length ≤ 3072) (hn : n1 ≤ 600000 ∧ n2 ≤ 7302250) (nx : LNX lx i n1 n2) : LV lx 557 i (Sf x y z) M n1 n2 := by
  obtain ⟨v, x', y', z', N1, N2, hc, hr, hJ⟩ := (op_damp hI : OpR kX10_damp kX11_damp 5 5 [(0, lx.getD (i + 1).toNat 0)] M) x y z
  refine r_aload_n dL_law_557 rfl (by decide) ?_
  refine r_sload_n dL_law_558 rfl ?_
  refine r_iload_n dL_law_559 rfl ?_
  refine r_iconst dL_law_560 (by decide) ?_
  refine r_iadd dL_law_561 (w32_id (by omega)) ?_
  refine r_sld dL_law_562 (by omega) (by omega) rfl ?_
  refine r_cq1 dL_law_563 clL_64 sf0 (by decide) (by decide) rfl (by decide) (Nat.le_of_ble_eq_true rfl) hc hn (fun v9 S9 M9 q hok => ?_)
  obtain ⟨rfl, rfl, rfl⟩ := q
  obtain ⟨w, rfl, -⟩ := hok
  refine r_aload_n dL_law_566 rfl (by decide) ?_
  refine r_sload_n dL_law_567 rfl ?_
  refine r_iload_n dL_law_568 rfl ?_
  refine r_iconst dL_law_569 (by decide) ?_
  refine r_iadd dL_law_570 (w32_id (by omega)) ?_
  refine r_sld dL_law_571 (by omega) (by omega) rfl ?_
  refine r_cq1 dL_law_572 clL_67 sf429 (by decide) (by decide) rfl (by decide) (Nat.le_of_ble_eq_true rfl) hr hn (fun v9 S9 M9 q hok => ?_)
  obtain ⟨rfl, rfl, rfl⟩ := q
  exact r_icmp_eq (tgt := 1541) dL_law_575 (by decide) (fun _ => nx _ _ _ _ hJ) (fun hq => absurd rfl hq)
theorem law_12 {lx : List Int} {M : Me} {x y z i : Int} {n1 n2 : Nat} (hI : INV M) (hi : 0 ≤ i ∧ i + 6 ≤ lx.length) (hl : lx.length ≤ 3072) (hn : n1 ≤ 600000 ∧ n2 ≤ 7302250) (nx : LNX lx i n1 n2) : LV lx 580 i (Sf x y z) M n1 n2 := by
  obtain ⟨v, x', y', z', N1, N2, hc, hr, hJ⟩ := (op_hour hI : OpR kX10_hour kX11_hour 4 4 [(0, lx.getD (i + 1).toNat 0)] M) x y z
  refine r_aload_n dL_law_580 rfl (by decide) ?_
  refine r_sload_n dL_law_581 rfl ?_
  refine r_iload_n dL_law_582 rfl ?_
  refine r_iconst dL_law_583 (by decide) ?_
  refine r_iadd dL_law_584 (w32_id (by omega)) ?_
  refine r_sld dL_law_585 (by omega) (by omega) rfl ?_
  refine r_cq1 dL_law_586 clL_68 sf0 (by decide) (by decide) rfl (by decide) (Nat.le_of_ble_eq_true rfl) hc hn (fun v9 S9 M9 q hok => ?_)
  obtain ⟨rfl, rfl, rfl⟩ := q
  obtain ⟨w, rfl, -⟩ := hok
  refine r_aload_n dL_law_589 rfl (by decide) ?_
  refine r_sload_n dL_law_590 rfl ?_
  refine r_iload_n dL_law_591 rfl ?_
  refine r_iconst dL_law_592 (by decide) ?_
  refine r_iadd dL_law_593 (w32_id (by omega)) ?_
  refine r_sld dL_law_594 (by omega) (by omega) rfl ?_
  refine r_cq1 dL_law_595 clL_71 sf429 (by decide) (by decide) rfl (by decide) (Nat.le_of_ble_eq_true rfl) hr hn (fun v9 S9 M9 q hok => ?_)
  obtain ⟨rfl, rfl, rfl⟩ := q
  exact r_icmp_eq (tgt := 1541) dL_law_598 (by decide) (fun _ => nx _ _ _ _ hJ) (fun hq => absurd rfl hq)
theorem law_13 {lx : List Int} {M : Me} {x y z i : Int} {n1 n2 : Nat} (hI : INV M) (hi : 0 ≤ i ∧ i + 6 ≤ lx.length) (hl : lx.length ≤ 3072) (hn : n1 ≤ 600000 ∧ n2 ≤ 7302250) (nx : LNX lx i n1 n2) : LV lx 603 i (Sf x y z) M n1 n2 := by
  obtain ⟨v, x', y', z', N1, N2, hc, hr, hJ⟩ := (op_played hI : OpR kX10_played kX11_played 9 10 [(0, lx.getD (i + 1).toNat 0)] M) x y z
  refine r_aload_n dL_law_603 rfl (by decide) ?_
  refine r_sload_n dL_law_604 rfl ?_
  refine r_iload_n dL_law_605 rfl ?_
  refine r_iconst dL_law_606 (by decide) ?_
  refine r_iadd dL_law_607 (w32_id (by omega)) ?_
  refine r_sld dL_law_608 (by omega) (by omega) rfl ?_
  refine r_cq1 dL_law_609 clL_72 sf0 (by decide) (by decide) rfl (by decide) (Nat.le_of_ble_eq_true rfl) hc hn (fun v9 S9 M9 q hok => ?_)
  obtain ⟨rfl, rfl, rfl⟩ := q
  obtain ⟨w, rfl, -⟩ := hok
  refine r_aload_n dL_law_612 rfl (by decide) ?_
  refine r_sload_n dL_law_613 rfl ?_
  refine r_iload_n dL_law_614 rfl ?_
  refine r_iconst dL_law_615 (by decide) ?_
  refine r_iadd dL_law_616 (w32_id (by omega)) ?_
  refine r_sld dL_law_617 (by omega) (by omega) rfl ?_
  refine r_cq1 dL_law_618 clL_75 sf429 (by decide) (by decide) rfl (by decide) (Nat.le_of_ble_eq_true rfl) hr hn (fun v9 S9 M9 q hok => ?_)
  obtain ⟨rfl, rfl, rfl⟩ := q
  exact r_icmp_eq (tgt := 1541) dL_law_621 (by decide) (fun _ => nx _ _ _ _ hJ) (fun hq => absurd rfl hq)
theorem law_14 {lx : List Int} {M : Me} {x y z i : Int} {n1 n2 : Nat} (hI : INV M) (hi : 0 ≤ i ∧ i + 6 ≤ lx.length) (hl : lx.length ≤ 3072) (hn : n1 ≤ 600000 ∧ n2 ≤ 7302250) (nx : LNX lx i n1 n2) : LV lx 626 i (Sf x y z) M n1 n2 := by
  obtain ⟨v, x', y', z', N1, N2, hc, hr, hJ⟩ := (op_seasons hI : OpR kX10_seasons kX11_seasons 8 10 [(0, lx.getD (i + 1).toNat 0), (0, lx.getD (i + 2).toNat 0)] M) x y z
  refine r_aload_n dL_law_626 rfl (by decide) ?_
  refine r_sload_n dL_law_627 rfl ?_
  refine r_iload_n dL_law_628 rfl ?_
  refine r_iconst dL_law_629 (by decide) ?_
  refine r_iadd dL_law_630 (w32_id (by omega)) ?_
  refine r_sld dL_law_631 (by omega) (by omega) rfl ?_
  refine r_sload_n dL_law_632 rfl ?_
  refine r_iload_n dL_law_633 rfl ?_
  refine r_iconst dL_law_634 (by decide) ?_
  refine r_iadd dL_law_635 (w32_id (by omega)) ?_
  refine r_sld dL_law_636 (by omega) (by omega) rfl ?_
  refine r_cq2 dL_law_637 clL_76 sf0 (by decide) (by decide) rfl (by decide) (Nat.le_of_ble_eq_true rfl) hc hn (fun v9 S9 M9 q hok => ?_)
  obtain ⟨rfl, rfl, rfl⟩ := q
  obtain ⟨w, rfl, -⟩ := hok
  refine r_aload_n dL_law_640 rfl (by decide) ?_
  refine r_sload_n dL_law_641 rfl ?_
  refine r_iload_n dL_law_642 rfl ?_
  refine r_iconst dL_law_643 (by decide) ?_
  refine r_iadd dL_law_644 (w32_id (by omega)) ?_
  refine r_sld dL_law_645 (by omega) (by omega) rfl ?_
  refine r_sload_n dL_law_646 rfl ?_
  refine r_iload_n dL_law_647 rfl ?_
  refine r_iconst dL_law_648 (by decide) ?_
  refine r_iadd dL_law_649 (w32_id (by omega)) ?_
  refine r_sld dL_law_650 (by omega) (by omega) rfl ?_
  refine r_cq2 dL_law_651 clL_79 sf429 (by decide) (by decide) rfl (by decide) (Nat.le_of_ble_eq_true rfl) hr hn (fun v9 S9 M9 q hok => ?_)
  obtain ⟨rfl, rfl, rfl⟩ := q
  exact r_icmp_eq (tgt := 1541) dL_law_654 (by decide) (fun _ => nx _ _ _ _ hJ) (fun hq => absurd rfl hq)
theorem law_15 {lx : List Int} {M : Me} {x y z i : Int} {n1 n2 : Nat} (hI : INV M) (hi : 0 ≤ i ∧ i + 6 ≤ lx.length) (hl : lx.length ≤ 3072) (hn : n1 ≤ 600000 ∧ n2 ≤ 7302250) (nx : LNX lx i n1 n2) : LV lx 659 i (Sf x y z) M n1 n2 := by
  obtain ⟨v, x', y', z', N1, N2, hc, hr, hJ⟩ := (op_undo hI : OpR kX10_undo kX11_undo 3 1 [] M) x y z
  refine r_aload_n dL_law_659 rfl (by decide) ?_
  refine r_cq0 dL_law_660 clL_80 sf0 (by decide) (by decide) rfl (by decide) (Nat.le_of_ble_eq_true rfl) hc hn (fun v9 S9 M9 q hok => ?_)
  obtain ⟨rfl, rfl, rfl⟩ := q
  obtain ⟨w, rfl, -⟩ := hok
  refine r_aload_n dL_law_663 rfl (by decide) ?_
  refine r_cq0 dL_law_664 clL_83 sf429 (by decide) (by decide) rfl (by decide) (Nat.le_of_ble_eq_true rfl) hr hn (fun v9 S9 M9 q hok => ?_)
  obtain ⟨rfl, rfl, rfl⟩ := q
  exact r_icmp_eq (tgt := 1541) dL_law_667 (by decide) (fun _ => nx _ _ _ _ hJ) (fun hq => absurd rfl hq)
theorem law_16 {lx : List Int} {M : Me} {x y z i : Int} {n1 n2 : Nat} (hI : INV M) (hi : 0 ≤ i ∧ i + 6 ≤ lx.length) (hl : lx.length ≤ 3072) (hn : n1 ≤ 600000 ∧ n2 ≤ 7302250) (nx : LNX lx i n1 n2) : LV lx 672 i (Sf x y z) M n1 n2 := by
  obtain ⟨v, x', y', z', N1, N2, hc, hr, hJ⟩ := (op_of hI : OpR kX10_of kX11_of 3 4 [(0, lx.getD (i + 1).toNat 0), (0, lx.getD (i + 2).toNat 0)] M) x y z
  refine r_aload_n dL_law_672 rfl (by decide) ?_
  refine r_sload_n dL_law_673 rfl ?_
  refine r_iload_n dL_law_674 rfl ?_
  refine r_iconst dL_law_675 (by decide) ?_
  refine r_iadd dL_law_676 (w32_id (by omega)) ?_
  refine r_sld dL_law_677 (by omega) (by omega) rfl ?_
  refine r_sload_n dL_law_678 rfl ?_
  refine r_iload_n dL_law_679 rfl ?_
  refine r_iconst dL_law_680 (by decide) ?_
  refine r_iadd dL_law_681 (w32_id (by omega)) ?_
  refine r_sld dL_law_682 (by omega) (by omega) rfl ?_
  refine r_cq2 dL_law_683 clL_84 sf0 (by decide) (by decide) rfl (by decide) (Nat.le_of_ble_eq_true rfl) hc hn (fun v9 S9 M9 q hok => ?_)
  obtain ⟨rfl, rfl, rfl⟩ := q
  obtain ⟨w, rfl, -⟩ := hok
  refine r_aload_n dL_law_686 rfl (by decide) ?_
  refine r_sload_n dL_law_687 rfl ?_
  refine r_iload_n dL_law_688 rfl ?_
  refine r_iconst dL_law_689 (by decide) ?_
  refine r_iadd dL_law_690 (w32_id (by omega)) ?_
  refine r_sld dL_law_691 (by omega) (by omega) rfl ?_
  refine r_sload_n dL_law_692 rfl ?_
  refine r_iload_n dL_law_693 rfl ?_
  refine r_iconst dL_law_694 (by decide) ?_
  refine r_iadd dL_law_695 (w32_id (by omega)) ?_
  refine r_sld dL_law_696 (by omega) (by omega) rfl ?_
  refine r_cq2 dL_law_697 clL_87 sf429 (by decide) (by decide) rfl (by decide) (Nat.le_of_ble_eq_true rfl) hr hn (fun v9 S9 M9 q hok => ?_)
  obtain ⟨rfl, rfl, rfl⟩ := q
  exact r_icmp_eq (tgt := 1541) dL_law_700 (by decide) (fun _ => nx _ _ _ _ hJ) (fun hq => absurd rfl hq)
theorem law_17 {lx : List Int} {M : Me} {x y z i : Int} {n1 n2 : Nat} (hI : INV M) (hi : 0 ≤ i ∧ i + 6 ≤ lx.length) (hl : lx.length ≤ 3072) (hn : n1 ≤ 600000 ∧ n2 ≤ 7302250) (nx : LNX lx i n1 n2) : LV lx 705 i (Sf x y z) M n1 n2 := by
  obtain ⟨v, x', y', z', N1, N2, hc, hr, hJ⟩ := (op_ofCrease hI : OpR kX10_ofCrease kX11_ofCrease 5 5 [(0, lx.getD (i + 1).toNat 0), (0, lx.getD (i + 2).toNat 0)] M) x y z
  refine r_aload_n dL_law_705 rfl (by decide) ?_
  refine r_sload_n dL_law_706 rfl ?_
  refine r_iload_n dL_law_707 rfl ?_
  refine r_iconst dL_law_708 (by decide) ?_
  refine r_iadd dL_law_709 (w32_id (by omega)) ?_
  refine r_sld dL_law_710 (by omega) (by omega) rfl ?_
  refine r_sload_n dL_law_711 rfl ?_
  refine r_iload_n dL_law_712 rfl ?_
  refine r_iconst dL_law_713 (by decide) ?_
  refine r_iadd dL_law_714 (w32_id (by omega)) ?_
  refine r_sld dL_law_715 (by omega) (by omega) rfl ?_
  refine r_cq2 dL_law_716 clL_88 sf0 (by decide) (by decide) rfl (by decide) (Nat.le_of_ble_eq_true rfl) hc hn (fun v9 S9 M9 q hok => ?_)
  obtain ⟨rfl, rfl, rfl⟩ := q
  obtain ⟨w, rfl, -⟩ := hok
  refine r_aload_n dL_law_719 rfl (by decide) ?_
  refine r_sload_n dL_law_720 rfl ?_
  refine r_iload_n dL_law_721 rfl ?_
  refine r_iconst dL_law_722 (by decide) ?_
  refine r_iadd dL_law_723 (w32_id (by omega)) ?_
  refine r_sld dL_law_724 (by omega) (by omega) rfl ?_
  refine r_sload_n dL_law_725 rfl ?_
  refine r_iload_n dL_law_726 rfl ?_
  refine r_iconst dL_law_727 (by decide) ?_
  refine r_iadd dL_law_728 (w32_id (by omega)) ?_
  refine r_sld dL_law_729 (by omega) (by omega) rfl ?_
  refine r_cq2 dL_law_730 clL_91 sf429 (by decide) (by decide) rfl (by decide) (Nat.le_of_ble_eq_true rfl) hr hn (fun v9 S9 M9 q hok => ?_)
  obtain ⟨rfl, rfl, rfl⟩ := q
  exact r_icmp_eq (tgt := 1541) dL_law_733 (by decide) (fun _ => nx _ _ _ _ hJ) (fun hq => absurd rfl hq)
theorem law_18 {lx : List Int} {M : Me} {x y z i : Int} {n1 n2 : Nat} (hI : INV M) (hi : 0 ≤ i ∧ i + 6 ≤ lx.length) (hl : lx.length ≤ 3072) (hn : n1 ≤ 600000 ∧ n2 ≤ 7302250) (nx : LNX lx i n1 n2) : LV lx 738 i (Sf x y z) M n1 n2 := by
  obtain ⟨v, x', y', z', N1, N2, hc, hr, hJ⟩ := (op_is hI : OpR kX10_is kX11_is 0 0 [(0, lx.getD (i + 1).toNat 0)] M) x y z
  refine r_aload_n dL_law_738 rfl (by decide) ?_
  refine r_sload_n dL_law_739 rfl ?_
  refine r_iload_n dL_law_740 rfl ?_
  refine r_iconst dL_law_741 (by decide) ?_
  refine r_iadd dL_law_742 (w32_id (by omega)) ?_
  refine r_sld dL_law_743 (by omega) (by omega) rfl ?_
  refine r_cq1 dL_law_744 clL_92 sf0 (by decide) (by decide) rfl (by decide) (Nat.le_of_ble_eq_true rfl) hc hn (fun v9 S9 M9 q hok => ?_)
  obtain ⟨rfl, rfl, rfl⟩ := q
  obtain ⟨w, rfl, -⟩ := hok
  refine r_aload_n dL_law_747 rfl (by decide) ?_
  refine r_sload_n dL_law_748 rfl ?_
  refine r_iload_n dL_law_749 rfl ?_
  refine r_iconst dL_law_750 (by decide) ?_
  refine r_iadd dL_law_751 (w32_id (by omega)) ?_
  refine r_sld dL_law_752 (by omega) (by omega) rfl ?_
  refine r_cq1 dL_law_753 clL_95 sf429 (by decide) (by decide) rfl (by decide) (Nat.le_of_ble_eq_true rfl) hr hn (fun v9 S9 M9 q hok => ?_)
  obtain ⟨rfl, rfl, rfl⟩ := q
  exact r_icmp_eq (tgt := 1541) dL_law_756 (by decide) (fun _ => nx _ _ _ _ hJ) (fun hq => absurd rfl hq)
theorem law_19 {lx : List Int} {M : Me} {x y z i : Int} {n1 n2 : Nat} (hI : INV M) (hi : 0 ≤ i ∧ i + 6 ≤ lx.length) (hl : lx.length ≤ 3072) (hn : n1 ≤ 600000 ∧ n2 ≤ 7302250) (nx : LNX lx i n1 n2) : LV lx 761 i (Sf x y z) M n1 n2 := by
  obtain ⟨v, x', y', z', N1, N2, hc, hr, hJ⟩ := (op_book hI : OpR kX10_book kX11_book 1 1 [(0, lx.getD (i + 1).toNat 0), (0, lx.getD (i + 2).toNat 0)] M) x y z
  refine r_aload_n dL_law_761 rfl (by decide) ?_
  refine r_sload_n dL_law_762 rfl ?_
  refine r_iload_n dL_law_763 rfl ?_
  refine r_iconst dL_law_764 (by decide) ?_
  refine r_iadd dL_law_765 (w32_id (by omega)) ?_
  refine r_sld dL_law_766 (by omega) (by omega) rfl ?_
  refine r_sload_n dL_law_767 rfl ?_
  refine r_iload_n dL_law_768 rfl ?_
  refine r_iconst dL_law_769 (by decide) ?_
  refine r_iadd dL_law_770 (w32_id (by omega)) ?_
  refine r_sld dL_law_771 (by omega) (by omega) rfl ?_
  refine r_cq2 dL_law_772 clL_96 sf0 (by decide) (by decide) rfl (by decide) (Nat.le_of_ble_eq_true rfl) hc hn (fun v9 S9 M9 q hok => ?_)
  obtain ⟨rfl, rfl, rfl⟩ := q
  obtain ⟨w, rfl, -⟩ := hok
  refine r_aload_n dL_law_775 rfl (by decide) ?_
  refine r_sload_n dL_law_776 rfl ?_
  refine r_iload_n dL_law_777 rfl ?_
  refine r_iconst dL_law_778 (by decide) ?_
  refine r_iadd dL_law_779 (w32_id (by omega)) ?_
  refine r_sld dL_law_780 (by omega) (by omega) rfl ?_
  refine r_sload_n dL_law_781 rfl ?_
  refine r_iload_n dL_law_782 rfl ?_
  refine r_iconst dL_law_783 (by decide) ?_
  refine r_iadd dL_law_784 (w32_id (by omega)) ?_
  refine r_sld dL_law_785 (by omega) (by omega) rfl ?_
  refine r_cq2 dL_law_786 clL_99 sf429 (by decide) (by decide) rfl (by decide) (Nat.le_of_ble_eq_true rfl) hr hn (fun v9 S9 M9 q hok => ?_)
  obtain ⟨rfl, rfl, rfl⟩ := q
  exact r_icmp_eq (tgt := 1541) dL_law_789 (by decide) (fun _ => nx _ _ _ _ hJ) (fun hq => absurd rfl hq)
theorem law_20 {lx : List Int} {M : Me} {x y z i : Int} {n1 n2 : Nat} (hI : INV M) (hi : 0 ≤ i ∧ i + 6 ≤ lx.length) (hl : lx.length ≤ 3072) (hn : n1 ≤ 600000 ∧ n2 ≤ 7302250) (nx : LNX lx i n1 n2) : LV lx 794 i (Sf x y z) M n1 n2 := by
  obtain ⟨v, x', y', z', N1, N2, hc, hr, hJ⟩ := (op_hanging hI : OpR kX10_hanging kX11_hanging 1 2 [(0, lx.getD (i + 1).toNat 0)] M) x y z
  refine r_aload_n dL_law_794 rfl (by decide) ?_
  refine r_sload_n dL_law_795 rfl ?_
  refine r_iload_n dL_law_796 rfl ?_
  refine r_iconst dL_law_797 (by decide) ?_
  refine r_iadd dL_law_798 (w32_id (by omega)) ?_
  refine r_sld dL_law_799 (by omega) (by omega) rfl ?_
  refine r_cq1 dL_law_800 clL_100 sf0 (by decide) (by decide) rfl (by decide) (Nat.le_of_ble_eq_true rfl) hc hn (fun v9 S9 M9 q hok => ?_)
  obtain ⟨rfl, rfl, rfl⟩ := q
  obtain ⟨w, rfl, -⟩ := hok
  refine r_aload_n dL_law_803 rfl (by decide) ?_
  refine r_sload_n dL_law_804 rfl ?_
  refine r_iload_n dL_law_805 rfl ?_
  refine r_iconst dL_law_806 (by decide) ?_
  refine r_iadd dL_law_807 (w32_id (by omega)) ?_
  refine r_sld dL_law_808 (by omega) (by omega) rfl ?_
  refine r_cq1 dL_law_809 clL_103 sf429 (by decide) (by decide) rfl (by decide) (Nat.le_of_ble_eq_true rfl) hr hn (fun v9 S9 M9 q hok => ?_)
  obtain ⟨rfl, rfl, rfl⟩ := q
  exact r_icmp_eq (tgt := 1541) dL_law_812 (by decide) (fun _ => nx _ _ _ _ hJ) (fun hq => absurd rfl hq)
theorem law_21 {lx : List Int} {M : Me} {x y z i : Int} {n1 n2 : Nat} (hI : INV M) (hi : 0 ≤ i ∧ i + 6 ≤ lx.length) (hl : lx.length ≤ 3072) (hn : n1 ≤ 600000 ∧ n2 ≤ 7302250) (nx : LNX lx i n1 n2) : LV lx 817 i (Sf x y z) M n1 n2 := by
  obtain ⟨v, x', y', z', N1, N2, hc, hr, hJ⟩ := (op_foretold hI : OpR kX10_foretold kX11_foretold 3 2 [(0, lx.getD (i + 1).toNat 0), (0, lx.getD (i + 2).toNat 0)] M) x y z
  refine r_aload_n dL_law_817 rfl (by decide) ?_
  refine r_sload_n dL_law_818 rfl ?_
  refine r_iload_n dL_law_819 rfl ?_
  refine r_iconst dL_law_820 (by decide) ?_
  refine r_iadd dL_law_821 (w32_id (by omega)) ?_
  refine r_sld dL_law_822 (by omega) (by omega) rfl ?_
  refine r_sload_n dL_law_823 rfl ?_
  refine r_iload_n dL_law_824 rfl ?_
  refine r_iconst dL_law_825 (by decide) ?_
  refine r_iadd dL_law_826 (w32_id (by omega)) ?_
  refine r_sld dL_law_827 (by omega) (by omega) rfl ?_
  refine r_cq2 dL_law_828 clL_104 sf0 (by decide) (by decide) rfl (by decide) (Nat.le_of_ble_eq_true rfl) hc hn (fun v9 S9 M9 q hok => ?_)
  obtain ⟨rfl, rfl, rfl⟩ := q
  obtain ⟨w, rfl, -⟩ := hok
  refine r_aload_n dL_law_831 rfl (by decide) ?_
  refine r_sload_n dL_law_832 rfl ?_
  refine r_iload_n dL_law_833 rfl ?_
  refine r_iconst dL_law_834 (by decide) ?_
  refine r_iadd dL_law_835 (w32_id (by omega)) ?_
  refine r_sld dL_law_836 (by omega) (by omega) rfl ?_
  refine r_sload_n dL_law_837 rfl ?_
  refine r_iload_n dL_law_838 rfl ?_
  refine r_iconst dL_law_839 (by decide) ?_
  refine r_iadd dL_law_840 (w32_id (by omega)) ?_
  refine r_sld dL_law_841 (by omega) (by omega) rfl ?_
  refine r_cq2 dL_law_842 clL_107 sf429 (by decide) (by decide) rfl (by decide) (Nat.le_of_ble_eq_true rfl) hr hn (fun v9 S9 M9 q hok => ?_)
  obtain ⟨rfl, rfl, rfl⟩ := q
  exact r_icmp_eq (tgt := 1541) dL_law_845 (by decide) (fun _ => nx _ _ _ _ hJ) (fun hq => absurd rfl hq)
theorem law_22 {lx : List Int} {M : Me} {x y z i : Int} {n1 n2 : Nat} (hI : INV M) (hi : 0 ≤ i ∧ i + 6 ≤ lx.length) (hl : lx.length ≤ 3072) (hn : n1 ≤ 600000 ∧ n2 ≤ 7302250) (nx : LNX lx i n1 n2) : LV lx 850 i (Sf x y z) M n1 n2 := by
  obtain ⟨v, x', y', z', N1, N2, hc, hr, hJ⟩ := (op_want hI : OpR kX10_want kX11_want 2 2 [(0, lx.getD (i + 1).toNat 0), (0, lx.getD (i + 2).toNat 0)] M) x y z
  refine r_aload_n dL_law_850 rfl (by decide) ?_
  refine r_sload_n dL_law_851 rfl ?_
  refine r_iload_n dL_law_852 rfl ?_
  refine r_iconst dL_law_853 (by decide) ?_
  refine r_iadd dL_law_854 (w32_id (by omega)) ?_
  refine r_sld dL_law_855 (by omega) (by omega) rfl ?_
  refine r_sload_n dL_law_856 rfl ?_
  refine r_iload_n dL_law_857 rfl ?_
  refine r_iconst dL_law_858 (by decide) ?_
  refine r_iadd dL_law_859 (w32_id (by omega)) ?_
  refine r_sld dL_law_860 (by omega) (by omega) rfl ?_
  refine r_cq2 dL_law_861 clL_108 sf0 (by decide) (by decide) rfl (by decide) (Nat.le_of_ble_eq_true rfl) hc hn (fun v9 S9 M9 q hok => ?_)
  obtain ⟨rfl, rfl, rfl⟩ := q
  obtain ⟨w, rfl, -⟩ := hok
  refine r_aload_n dL_law_864 rfl (by decide) ?_
  refine r_sload_n dL_law_865 rfl ?_
  refine r_iload_n dL_law_866 rfl ?_
  refine r_iconst dL_law_867 (by decide) ?_
  refine r_iadd dL_law_868 (w32_id (by omega)) ?_
  refine r_sld dL_law_869 (by omega) (by omega) rfl ?_
  refine r_sload_n dL_law_870 rfl ?_
  refine r_iload_n dL_law_871 rfl ?_
  refine r_iconst dL_law_872 (by decide) ?_
  refine r_iadd dL_law_873 (w32_id (by omega)) ?_
  refine r_sld dL_law_874 (by omega) (by omega) rfl ?_
  refine r_cq2 dL_law_875 clL_111 sf429 (by decide) (by decide) rfl (by decide) (Nat.le_of_ble_eq_true rfl) hr hn (fun v9 S9 M9 q hok => ?_)
  obtain ⟨rfl, rfl, rfl⟩ := q
  exact r_icmp_eq (tgt := 1541) dL_law_878 (by decide) (fun _ => nx _ _ _ _ hJ) (fun hq => absurd rfl hq)
theorem law_23 {lx : List Int} {M : Me} {x y z i : Int} {n1 n2 : Nat} (hI : INV M) (hi : 0 ≤ i ∧ i + 6 ≤ lx.length) (hl : lx.length ≤ 3072) (hn : n1 ≤ 600000 ∧ n2 ≤ 7302250) (nx : LNX lx i n1 n2) : LV lx 883 i (Sf x y z) M n1 n2 := by
  by_cases hb : lx.getD (i + 1).toNat 0 = 0
  · obtain ⟨v, x', y', z', N1, N2, hc, hr, hJ⟩ := (op_cut hI : OpR kX10_cut kX11_cut 4 4 [(0, 0)] M) x y z
    refine r_aload_n dL_law_883 rfl (by decide) ?_
    refine r_sload_n dL_law_884 rfl ?_
    refine r_iload_n dL_law_885 rfl ?_
    refine r_iconst dL_law_886 (by decide) ?_
    refine r_iadd dL_law_887 (w32_id (by omega)) ?_
    refine r_sld dL_law_888 (by omega) (by omega) rfl ?_
    refine r_if_eq (tgt := 896) dL_law_889 (by decide) (fun hq => ?_) (fun hq => absurd hb hq)
    refine r_iconst dL_law_896 (by decide) ?_
    refine r_cq1 dL_law_897 clL_112 sf0 (by decide) (by decide) rfl (by decide) (Nat.le_of_ble_eq_true rfl) hc hn (fun v9 S9 M9 q hok => ?_)
    obtain ⟨rfl, rfl, rfl⟩ := q
    obtain ⟨w, rfl, -⟩ := hok
    refine r_aload_n dL_law_900 rfl (by decide) ?_
    refine r_sload_n dL_law_901 rfl ?_
    refine r_iload_n dL_law_902 rfl ?_
    refine r_iconst dL_law_903 (by decide) ?_
    refine r_iadd dL_law_904 (w32_id (by omega)) ?_
    refine r_sld dL_law_905 (by omega) (by omega) rfl ?_
    refine r_if_eq (tgt := 913) dL_law_906 (by decide) (fun hq => ?_) (fun hq => absurd hb hq)
    refine r_iconst dL_law_913 (by decide) ?_
    refine r_cq1 dL_law_914 clL_116 sf429 (by decide) (by decide) rfl (by decide) (Nat.le_of_ble_eq_true rfl) hr hn (fun v9 S9 M9 q hok => ?_)
    obtain ⟨rfl, rfl, rfl⟩ := q
    exact r_icmp_eq (tgt := 1541) dL_law_917 (by decide) (fun _ => nx _ _ _ _ hJ) (fun hq => absurd rfl hq)
  · obtain ⟨v, x', y', z', N1, N2, hc, hr, hJ⟩ := (op_cut hI : OpR kX10_cut kX11_cut 4 4 [(0, 1)] M) x y z
    refine r_aload_n dL_law_883 rfl (by decide) ?_
    refine r_sload_n dL_law_884 rfl ?_
    refine r_iload_n dL_law_885 rfl ?_
    refine r_iconst dL_law_886 (by decide) ?_
    refine r_iadd dL_law_887 (w32_id (by omega)) ?_
    refine r_sld dL_law_888 (by omega) (by omega) rfl ?_
    refine r_if_eq (tgt := 896) dL_law_889 (by decide) (fun hq => absurd hq hb) (fun hq => ?_)
    refine r_iconst dL_law_892 (by decide) ?_
    refine r_goto (tgt := 897) dL_law_893 (by decide) ?_
    refine r_cq1 dL_law_897 clL_112 sf0 (by decide) (by decide) rfl (by decide) (Nat.le_of_ble_eq_true rfl) hc hn (fun v9 S9 M9 q hok => ?_)
    obtain ⟨rfl, rfl, rfl⟩ := q
    obtain ⟨w, rfl, -⟩ := hok
    refine r_aload_n dL_law_900 rfl (by decide) ?_
    refine r_sload_n dL_law_901 rfl ?_
    refine r_iload_n dL_law_902 rfl ?_
    refine r_iconst dL_law_903 (by decide) ?_
    refine r_iadd dL_law_904 (w32_id (by omega)) ?_
    refine r_sld dL_law_905 (by omega) (by omega) rfl ?_
    refine r_if_eq (tgt := 913) dL_law_906 (by decide) (fun hq => absurd hq hb) (fun hq => ?_)
    refine r_iconst dL_law_909 (by decide) ?_
    refine r_goto (tgt := 914) dL_law_910 (by decide) ?_
    refine r_cq1 dL_law_914 clL_116 sf429 (by decide) (by decide) rfl (by decide) (Nat.le_of_ble_eq_true rfl) hr hn (fun v9 S9 M9 q hok => ?_)
    obtain ⟨rfl, rfl, rfl⟩ := q
    exact r_icmp_eq (tgt := 1541) dL_law_917 (by decide) (fun _ => nx _ _ _ _ hJ) (fun hq => absurd rfl hq)
theorem law_24 {lx : List Int} {M : Me} {x y z i : Int} {n1 n2 : Nat} (hI : INV M) (hi : 0 ≤ i ∧ i + 6 ≤ lx.length) (hl : lx.length ≤ 3072) (hn : n1 ≤ 600000 ∧ n2 ≤ 7302250) (nx : LNX lx i n1 n2) : LV lx 922 i (Sf x y z) M n1 n2 := by
  obtain ⟨v, x', y', z', N1, N2, hc, hr, hJ⟩ := (op_board hI : OpR kX10_board kX11_board 2 1 [(0, lx.getD (i + 1).toNat 0)] M) x y z
  refine r_aload_n dL_law_922 rfl (by decide) ?_
  refine r_sload_n dL_law_923 rfl ?_
  refine r_iload_n dL_law_924 rfl ?_
  refine r_iconst dL_law_925 (by decide) ?_
  refine r_iadd dL_law_926 (w32_id (by omega)) ?_
  refine r_sld dL_law_927 (by omega) (by omega) rfl ?_
  refine r_cq1 dL_law_928 clL_117 sf0 (by decide) (by decide) rfl (by decide) (Nat.le_of_ble_eq_true rfl) hc hn (fun v9 S9 M9 q hok => ?_)
  obtain ⟨rfl, rfl, rfl⟩ := q
  obtain ⟨w, rfl, -⟩ := hok
  refine r_aload_n dL_law_931 rfl (by decide) ?_
  refine r_sload_n dL_law_932 rfl ?_
  refine r_iload_n dL_law_933 rfl ?_
  refine r_iconst dL_law_934 (by decide) ?_
  refine r_iadd dL_law_935 (w32_id (by omega)) ?_
  refine r_sld dL_law_936 (by omega) (by omega) rfl ?_
  refine r_cq1 dL_law_937 clL_120 sf429 (by decide) (by decide) rfl (by decide) (Nat.le_of_ble_eq_true rfl) hr hn (fun v9 S9 M9 q hok => ?_)
  obtain ⟨rfl, rfl, rfl⟩ := q
  exact r_icmp_eq (tgt := 1541) dL_law_940 (by decide) (fun _ => nx _ _ _ _ hJ) (fun hq => absurd rfl hq)
theorem law_25 {lx : List Int} {M : Me} {x y z i : Int} {n1 n2 : Nat} (hI : INV M) (hi : 0 ≤ i ∧ i + 6 ≤ lx.length) (hl : lx.length ≤ 3072) (hn : n1 ≤ 600000 ∧ n2 ≤ 7302250) (nx : LNX lx i n1 n2) : LV lx 945 i (Sf x y z) M n1 n2 := by
  obtain ⟨v, x', y', z', N1, N2, hc, hr, hJ⟩ := (op_hands hI : OpR kX10_hands kX11_hands 12 1 [(0, lx.getD (i + 1).toNat 0), (0, lx.getD (i + 2).toNat 0)] M) x y z
  refine r_aload_n dL_law_945 rfl (by decide) ?_
  refine r_sload_n dL_law_946 rfl ?_
  refine r_iload_n dL_law_947 rfl ?_
  refine r_iconst dL_law_948 (by decide) ?_
  refine r_iadd dL_law_949 (w32_id (by omega)) ?_
  refine r_sld dL_law_950 (by omega) (by omega) rfl ?_
  refine r_sload_n dL_law_951 rfl ?_
  refine r_iload_n dL_law_952 rfl ?_
  refine r_iconst dL_law_953 (by decide) ?_
  refine r_iadd dL_law_954 (w32_id (by omega)) ?_
  refine r_sld dL_law_955 (by omega) (by omega) rfl ?_
  refine r_cq2 dL_law_956 clL_121 sf0 (by decide) (by decide) rfl (by decide) (Nat.le_of_ble_eq_true rfl) hc hn (fun v9 S9 M9 q hok => ?_)
  obtain ⟨rfl, rfl, rfl⟩ := q
  obtain ⟨w, rfl, -⟩ := hok
  refine r_aload_n dL_law_959 rfl (by decide) ?_
  refine r_sload_n dL_law_960 rfl ?_
  refine r_iload_n dL_law_961 rfl ?_
  refine r_iconst dL_law_962 (by decide) ?_
  refine r_iadd dL_law_963 (w32_id (by omega)) ?_
  refine r_sld dL_law_964 (by omega) (by omega) rfl ?_
  refine r_sload_n dL_law_965 rfl ?_
  refine r_iload_n dL_law_966 rfl ?_
  refine r_iconst dL_law_967 (by decide) ?_
  refine r_iadd dL_law_968 (w32_id (by omega)) ?_
  refine r_sld dL_law_969 (by omega) (by omega) rfl ?_
  refine r_cq2 dL_law_970 clL_124 sf429 (by decide) (by decide) rfl (by decide) (Nat.le_of_ble_eq_true rfl) hr hn (fun v9 S9 M9 q hok => ?_)
  obtain ⟨rfl, rfl, rfl⟩ := q
  exact r_icmp_eq (tgt := 1541) dL_law_973 (by decide) (fun _ => nx _ _ _ _ hJ) (fun hq => absurd rfl hq)
theorem law_26 {lx : List Int} {M : Me} {x y z i : Int} {n1 n2 : Nat} (hI : INV M) (hi : 0 ≤ i ∧ i + 6 ≤ lx.length) (hl : lx.length ≤ 3072) (hn : n1 ≤ 600000 ∧ n2 ≤ 7302250) (nx : LNX lx i n1 n2) : LV lx 978 i (Sf x y z) M n1 n2 := by
  obtain ⟨v, x', y', z', N1, N2, hc, hr, hJ⟩ := (op_flat hI : OpR kX10_flat kX11_flat 3 3 [(0, lx.getD (i + 1).toNat 0), (0, lx.getD (i + 2).toNat 0), (0, lx.getD (i + 3).toNat 0)] M) x y z
  refine r_aload_n dL_law_978 rfl (by decide) ?_
  refine r_sload_n dL_law_979 rfl ?_
  refine r_iload_n dL_law_980 rfl ?_
  refine r_iconst dL_law_981 (by decide) ?_
  refine r_iadd dL_law_982 (w32_id (by omega)) ?_
  refine r_sld dL_law_983 (by omega) (by omega) rfl ?_
  refine r_sload_n dL_law_984 rfl ?_
  refine r_iload_n dL_law_985 rfl ?_
  refine r_iconst dL_law_986 (by decide) ?_
  refine r_iadd dL_law_987 (w32_id (by omega)) ?_
  refine r_sld dL_law_988 (by omega) (by omega) rfl ?_
  refine r_sload_n dL_law_989 rfl ?_
  refine r_iload_n dL_law_990 rfl ?_
  refine r_iconst dL_law_991 (by decide) ?_
  refine r_iadd dL_law_992 (w32_id (by omega)) ?_
  refine r_sld dL_law_993 (by omega) (by omega) rfl ?_
  refine r_cq3 dL_law_994 clL_125 sf0 (by decide) (by decide) rfl (by decide) (Nat.le_of_ble_eq_true rfl) hc hn (fun v9 S9 M9 q hok => ?_)
  obtain ⟨rfl, rfl, rfl⟩ := q
  obtain ⟨w, rfl, -⟩ := hok
  refine r_aload_n dL_law_997 rfl (by decide) ?_
  refine r_sload_n dL_law_998 rfl ?_
  refine r_iload_n dL_law_999 rfl ?_
  refine r_iconst dL_law_1000 (by decide) ?_
  refine r_iadd dL_law_1001 (w32_id (by omega)) ?_
  refine r_sld dL_law_1002 (by omega) (by omega) rfl ?_
  refine r_sload_n dL_law_1003 rfl ?_
  refine r_iload_n dL_law_1004 rfl ?_
  refine r_iconst dL_law_1005 (by decide) ?_
  refine r_iadd dL_law_1006 (w32_id (by omega)) ?_
  refine r_sld dL_law_1007 (by omega) (by omega) rfl ?_
  refine r_sload_n dL_law_1008 rfl ?_
  refine r_iload_n dL_law_1009 rfl ?_
  refine r_iconst dL_law_1010 (by decide) ?_
  refine r_iadd dL_law_1011 (w32_id (by omega)) ?_
  refine r_sld dL_law_1012 (by omega) (by omega) rfl ?_
  refine r_cq3 dL_law_1013 clL_129 sf429 (by decide) (by decide) rfl (by decide) (Nat.le_of_ble_eq_true rfl) hr hn (fun v9 S9 M9 q hok => ?_)
  obtain ⟨rfl, rfl, rfl⟩ := q
  exact r_icmp_eq (tgt := 1541) dL_law_1016 (by decide) (fun _ => nx _ _ _ _ hJ) (fun hq => absurd rfl hq)
theorem law_27 {lx : List Int} {M : Me} {x y z i : Int} {n1 n2 : Nat} (hI : INV M) (hi : 0 ≤ i ∧ i + 6 ≤ lx.length) (hl : lx.length ≤ 3072) (hn : n1 ≤ 600000 ∧ n2 ≤ 7302250) (nx : LNX lx i n1 n2) : LV lx 1021 i (Sf x y z) M n1 n2 := by
  obtain ⟨v, x', y', z', N1, N2, hc, hr, hJ⟩ := (op_seam hI : OpR kX10_seam kX11_seam 2 1 [(0, lx.getD (i + 1).toNat 0), (0, lx.getD (i + 2).toNat 0), (0, lx.getD (i + 3).toNat 0)] M) x y z
  refine r_aload_n dL_law_1021 rfl (by decide) ?_
  refine r_sload_n dL_law_1022 rfl ?_
  refine r_iload_n dL_law_1023 rfl ?_
  refine r_iconst dL_law_1024 (by decide) ?_
  refine r_iadd dL_law_1025 (w32_id (by omega)) ?_
  refine r_sld dL_law_1026 (by omega) (by omega) rfl ?_
  refine r_sload_n dL_law_1027 rfl ?_
  refine r_iload_n dL_law_1028 rfl ?_
  refine r_iconst dL_law_1029 (by decide) ?_
  refine r_iadd dL_law_1030 (w32_id (by omega)) ?_
  refine r_sld dL_law_1031 (by omega) (by omega) rfl ?_
  refine r_sload_n dL_law_1032 rfl ?_
  refine r_iload_n dL_law_1033 rfl ?_
  refine r_iconst dL_law_1034 (by decide) ?_
  refine r_iadd dL_law_1035 (w32_id (by omega)) ?_
  refine r_sld dL_law_1036 (by omega) (by omega) rfl ?_
  refine r_cq3 dL_law_1037 clL_130 sf0 (by decide) (by decide) rfl (by decide) (Nat.le_of_ble_eq_true rfl) hc hn (fun v9 S9 M9 q hok => ?_)
  obtain ⟨rfl, rfl, rfl⟩ := q
  obtain ⟨w, rfl, -⟩ := hok
  refine r_aload_n dL_law_1040 rfl (by decide) ?_
  refine r_sload_n dL_law_1041 rfl ?_
  refine r_iload_n dL_law_1042 rfl ?_
  refine r_iconst dL_law_1043 (by decide) ?_
  refine r_iadd dL_law_1044 (w32_id (by omega)) ?_
  refine r_sld dL_law_1045 (by omega) (by omega) rfl ?_
  refine r_sload_n dL_law_1046 rfl ?_
  refine r_iload_n dL_law_1047 rfl ?_
  refine r_iconst dL_law_1048 (by decide) ?_
  refine r_iadd dL_law_1049 (w32_id (by omega)) ?_
  refine r_sld dL_law_1050 (by omega) (by omega) rfl ?_
  refine r_sload_n dL_law_1051 rfl ?_
  refine r_iload_n dL_law_1052 rfl ?_
  refine r_iconst dL_law_1053 (by decide) ?_
  refine r_iadd dL_law_1054 (w32_id (by omega)) ?_
  refine r_sld dL_law_1055 (by omega) (by omega) rfl ?_
  refine r_cq3 dL_law_1056 clL_133 sf429 (by decide) (by decide) rfl (by decide) (Nat.le_of_ble_eq_true rfl) hr hn (fun v9 S9 M9 q hok => ?_)
  obtain ⟨rfl, rfl, rfl⟩ := q
  exact r_icmp_eq (tgt := 1541) dL_law_1059 (by decide) (fun _ => nx _ _ _ _ hJ) (fun hq => absurd rfl hq)
theorem law_28 {lx : List Int} {M : Me} {x y z i : Int} {n1 n2 : Nat} (hI : INV M) (hi : 0 ≤ i ∧ i + 6 ≤ lx.length) (hl : lx.length ≤ 3072) (hn : n1 ≤ 600000 ∧ n2 ≤ 7302250) (nx : LNX lx i n1 n2) : LV lx 1064 i (Sf x y z) M n1 n2 := by
  obtain ⟨v, x', y', z', N1, N2, hc, hr, hJ⟩ := (op_sets hI : OpR kX10_sets kX11_sets 16 4 [(0, lx.getD (i + 1).toNat 0), (0, lx.getD (i + 2).toNat 0)] M) x y z
  refine r_aload_n dL_law_1064 rfl (by decide) ?_
  refine r_sload_n dL_law_1065 rfl ?_
  refine r_iload_n dL_law_1066 rfl ?_
  refine r_iconst dL_law_1067 (by decide) ?_
  refine r_iadd dL_law_1068 (w32_id (by omega)) ?_
  refine r_sld dL_law_1069 (by omega) (by omega) rfl ?_
  refine r_sload_n dL_law_1070 rfl ?_
  refine r_iload_n dL_law_1071 rfl ?_
  refine r_iconst dL_law_1072 (by decide) ?_
  refine r_iadd dL_law_1073 (w32_id (by omega)) ?_
  refine r_sld dL_law_1074 (by omega) (by omega) rfl ?_
  refine r_cq2 dL_law_1075 clL_134 sf0 (by decide) (by decide) rfl (by decide) (Nat.le_of_ble_eq_true rfl) hc hn (fun v9 S9 M9 q hok => ?_)
  obtain ⟨rfl, rfl, rfl⟩ := q
  obtain ⟨w, rfl, -⟩ := hok
  refine r_aload_n dL_law_1078 rfl (by decide) ?_
  refine r_sload_n dL_law_1079 rfl ?_
  refine r_iload_n dL_law_1080 rfl ?_
  refine r_iconst dL_law_1081 (by decide) ?_
  refine r_iadd dL_law_1082 (w32_id (by omega)) ?_
  refine r_sld dL_law_1083 (by omega) (by omega) rfl ?_
  refine r_sload_n dL_law_1084 rfl ?_
  refine r_iload_n dL_law_1085 rfl ?_
  refine r_iconst dL_law_1086 (by decide) ?_
  refine r_iadd dL_law_1087 (w32_id (by omega)) ?_
  refine r_sld dL_law_1088 (by omega) (by omega) rfl ?_
  refine r_cq2 dL_law_1089 clL_137 sf429 (by decide) (by decide) rfl (by decide) (Nat.le_of_ble_eq_true rfl) hr hn (fun v9 S9 M9 q hok => ?_)
  obtain ⟨rfl, rfl, rfl⟩ := q
  exact r_icmp_eq (tgt := 1541) dL_law_1092 (by decide) (fun _ => nx _ _ _ _ hJ) (fun hq => absurd rfl hq)
theorem law_29 {lx : List Int} {M : Me} {x y z i : Int} {n1 n2 : Nat} (hI : INV M) (hi : 0 ≤ i ∧ i + 6 ≤ lx.length) (hl : lx.length ≤ 3072) (hn : n1 ≤ 600000 ∧ n2 ≤ 7302250) (nx : LNX lx i n1 n2) : LV lx 1097 i (Sf x y z) M n1 n2 := by
  obtain ⟨v, x', y', z', N1, N2, hc, hr, hJ⟩ := (op_next hI : OpR kX10_next kX11_next 16 4 [(0, lx.getD (i + 1).toNat 0)] M) x y z
  refine r_aload_n dL_law_1097 rfl (by decide) ?_
  refine r_sload_n dL_law_1098 rfl ?_
  refine r_iload_n dL_law_1099 rfl ?_
  refine r_iconst dL_law_1100 (by decide) ?_
  refine r_iadd dL_law_1101 (w32_id (by omega)) ?_
  refine r_sld dL_law_1102 (by omega) (by omega) rfl ?_
  refine r_cq1 dL_law_1103 clL_138 sf0 (by decide) (by decide) rfl (by decide) (Nat.le_of_ble_eq_true rfl) hc hn (fun v9 S9 M9 q hok => ?_)
  obtain ⟨rfl, rfl, rfl⟩ := q
  obtain ⟨w, rfl, -⟩ := hok
  refine r_aload_n dL_law_1106 rfl (by decide) ?_
  refine r_sload_n dL_law_1107 rfl ?_
  refine r_iload_n dL_law_1108 rfl ?_
  refine r_iconst dL_law_1109 (by decide) ?_
  refine r_iadd dL_law_1110 (w32_id (by omega)) ?_
  refine r_sld dL_law_1111 (by omega) (by omega) rfl ?_
  refine r_cq1 dL_law_1112 clL_141 sf429 (by decide) (by decide) rfl (by decide) (Nat.le_of_ble_eq_true rfl) hr hn (fun v9 S9 M9 q hok => ?_)
  obtain ⟨rfl, rfl, rfl⟩ := q
  exact r_icmp_eq (tgt := 1541) dL_law_1115 (by decide) (fun _ => nx _ _ _ _ hJ) (fun hq => absurd rfl hq)
theorem law_30 {lx : List Int} {M : Me} {x y z i : Int} {n1 n2 : Nat} (hI : INV M) (hi : 0 ≤ i ∧ i + 6 ≤ lx.length) (hl : lx.length ≤ 3072) (hn : n1 ≤ 600000 ∧ n2 ≤ 7302250) (nx : LNX lx i n1 n2) : LV lx 1120 i (Sf x y z) M n1 n2 := by
  obtain ⟨v, x', y', z', N1, N2, hc, hr, hJ⟩ := (op_heir hI : OpR kX10_heir kX11_heir 2 1 [(0, lx.getD (i + 1).toNat 0)] M) x y z
  refine r_aload_n dL_law_1120 rfl (by decide) ?_
  refine r_sload_n dL_law_1121 rfl ?_
  refine r_iload_n dL_law_1122 rfl ?_
  refine r_iconst dL_law_1123 (by decide) ?_
  refine r_iadd dL_law_1124 (w32_id (by omega)) ?_
  refine r_sld dL_law_1125 (by omega) (by omega) rfl ?_
  refine r_cq1 dL_law_1126 clL_142 sf0 (by decide) (by decide) rfl (by decide) (Nat.le_of_ble_eq_true rfl) hc hn (fun v9 S9 M9 q hok => ?_)
  obtain ⟨rfl, rfl, rfl⟩ := q
  obtain ⟨w, rfl, -⟩ := hok
  refine r_aload_n dL_law_1129 rfl (by decide) ?_
  refine r_sload_n dL_law_1130 rfl ?_
  refine r_iload_n dL_law_1131 rfl ?_
  refine r_iconst dL_law_1132 (by decide) ?_
  refine r_iadd dL_law_1133 (w32_id (by omega)) ?_
  refine r_sld dL_law_1134 (by omega) (by omega) rfl ?_
  refine r_cq1 dL_law_1135 clL_145 sf429 (by decide) (by decide) rfl (by decide) (Nat.le_of_ble_eq_true rfl) hr hn (fun v9 S9 M9 q hok => ?_)
  obtain ⟨rfl, rfl, rfl⟩ := q
  exact r_icmp_eq (tgt := 1541) dL_law_1138 (by decide) (fun _ => nx _ _ _ _ hJ) (fun hq => absurd rfl hq)
theorem law_31 {lx : List Int} {M : Me} {x y z i : Int} {n1 n2 : Nat} (hI : INV M) (hi : 0 ≤ i ∧ i + 6 ≤ lx.length) (hl : lx.length ≤ 3072) (hn : n1 ≤ 600000 ∧ n2 ≤ 7302250) (nx : LNX lx i n1 n2) : LV lx 1143 i (Sf x y z) M n1 n2 := by
  by_cases hb : lx.getD (i + 2).toNat 0 = 0
  · obtain ⟨v, x', y', z', N1, N2, hc, hr, hJ⟩ := (op_laughs hI : OpR kX10_laughs kX11_laughs 1 1 [(0, lx.getD (i + 1).toNat 0), (0, 0), (0, lx.getD (i + 3).toNat 0)] M) x y z
    refine r_aload_n dL_law_1143 rfl (by decide) ?_
    refine r_sload_n dL_law_1144 rfl ?_
    refine r_iload_n dL_law_1145 rfl ?_
    refine r_iconst dL_law_1146 (by decide) ?_
    refine r_iadd dL_law_1147 (w32_id (by omega)) ?_
    refine r_sld dL_law_1148 (by omega) (by omega) rfl ?_
    refine r_sload_n dL_law_1149 rfl ?_
    refine r_iload_n dL_law_1150 rfl ?_
    refine r_iconst dL_law_1151 (by decide) ?_
    refine r_iadd dL_law_1152 (w32_id (by omega)) ?_
    refine r_sld dL_law_1153 (by omega) (by omega) rfl ?_
    refine r_if_eq (tgt := 1161) dL_law_1154 (by decide) (fun hq => ?_) (fun hq => absurd hb hq)
    refine r_iconst dL_law_1161 (by decide) ?_
    refine r_sload_n dL_law_1162 rfl ?_
    refine r_iload_n dL_law_1163 rfl ?_
    refine r_iconst dL_law_1164 (by decide) ?_
    refine r_iadd dL_law_1165 (w32_id (by omega)) ?_
    refine r_sld dL_law_1166 (by omega) (by omega) rfl ?_
    refine r_cq3 dL_law_1167 clL_146 sf0 (by decide) (by decide) rfl (by decide) (Nat.le_of_ble_eq_true rfl) hc hn (fun v9 S9 M9 q hok => ?_)
    obtain ⟨rfl, rfl, rfl⟩ := q
    obtain ⟨w, rfl, -⟩ := hok
    refine r_aload_n dL_law_1170 rfl (by decide) ?_
    refine r_sload_n dL_law_1171 rfl ?_
    refine r_iload_n dL_law_1172 rfl ?_
    refine r_iconst dL_law_1173 (by decide) ?_
    refine r_iadd dL_law_1174 (w32_id (by omega)) ?_
    refine r_sld dL_law_1175 (by omega) (by omega) rfl ?_
    refine r_sload_n dL_law_1176 rfl ?_
    refine r_iload_n dL_law_1177 rfl ?_
    refine r_iconst dL_law_1178 (by decide) ?_
    refine r_iadd dL_law_1179 (w32_id (by omega)) ?_
    refine r_sld dL_law_1180 (by omega) (by omega) rfl ?_
    refine r_if_eq (tgt := 1188) dL_law_1181 (by decide) (fun hq => ?_) (fun hq => absurd hb hq)
    refine r_iconst dL_law_1188 (by decide) ?_
    refine r_sload_n dL_law_1189 rfl ?_
    refine r_iload_n dL_law_1190 rfl ?_
    refine r_iconst dL_law_1191 (by decide) ?_
    refine r_iadd dL_law_1192 (w32_id (by omega)) ?_
    refine r_sld dL_law_1193 (by omega) (by omega) rfl ?_
    refine r_cq3 dL_law_1194 clL_150 sf429 (by decide) (by decide) rfl (by decide) (Nat.le_of_ble_eq_true rfl) hr hn (fun v9 S9 M9 q hok => ?_)
    obtain ⟨rfl, rfl, rfl⟩ := q
    exact r_icmp_eq (tgt := 1541) dL_law_1197 (by decide) (fun _ => nx _ _ _ _ hJ) (fun hq => absurd rfl hq)
  · obtain ⟨v, x', y', z', N1, N2, hc, hr, hJ⟩ := (op_laughs hI : OpR kX10_laughs kX11_laughs 1 1 [(0, lx.getD (i + 1).toNat 0), (0, 1), (0, lx.getD (i + 3).toNat 0)] M) x y z
    refine r_aload_n dL_law_1143 rfl (by decide) ?_
    refine r_sload_n dL_law_1144 rfl ?_
    refine r_iload_n dL_law_1145 rfl ?_
    refine r_iconst dL_law_1146 (by decide) ?_
    refine r_iadd dL_law_1147 (w32_id (by omega)) ?_
    refine r_sld dL_law_1148 (by omega) (by omega) rfl ?_
    refine r_sload_n dL_law_1149 rfl ?_
    refine r_iload_n dL_law_1150 rfl ?_
    refine r_iconst dL_law_1151 (by decide) ?_
    refine r_iadd dL_law_1152 (w32_id (by omega)) ?_
    refine r_sld dL_law_1153 (by omega) (by omega) rfl ?_
    refine r_if_eq (tgt := 1161) dL_law_1154 (by decide) (fun hq => absurd hq hb) (fun hq => ?_)
    refine r_iconst dL_law_1157 (by decide) ?_
    refine r_goto (tgt := 1162) dL_law_1158 (by decide) ?_
    refine r_sload_n dL_law_1162 rfl ?_
    refine r_iload_n dL_law_1163 rfl ?_
    refine r_iconst dL_law_1164 (by decide) ?_
    refine r_iadd dL_law_1165 (w32_id (by omega)) ?_
    refine r_sld dL_law_1166 (by omega) (by omega) rfl ?_
    refine r_cq3 dL_law_1167 clL_146 sf0 (by decide) (by decide) rfl (by decide) (Nat.le_of_ble_eq_true rfl) hc hn (fun v9 S9 M9 q hok => ?_)
    obtain ⟨rfl, rfl, rfl⟩ := q
    obtain ⟨w, rfl, -⟩ := hok
    refine r_aload_n dL_law_1170 rfl (by decide) ?_
    refine r_sload_n dL_law_1171 rfl ?_
    refine r_iload_n dL_law_1172 rfl ?_
    refine r_iconst dL_law_1173 (by decide) ?_
    refine r_iadd dL_law_1174 (w32_id (by omega)) ?_
    refine r_sld dL_law_1175 (by omega) (by omega) rfl ?_
    refine r_sload_n dL_law_1176 rfl ?_
    refine r_iload_n dL_law_1177 rfl ?_
    refine r_iconst dL_law_1178 (by decide) ?_
    refine r_iadd dL_law_1179 (w32_id (by omega)) ?_
    refine r_sld dL_law_1180 (by omega) (by omega) rfl ?_
    refine r_if_eq (tgt := 1188) dL_law_1181 (by decide) (fun hq => absurd hq hb) (fun hq => ?_)
    refine r_iconst dL_law_1184 (by decide) ?_
    refine r_goto (tgt := 1189) dL_law_1185 (by decide) ?_
    refine r_sload_n dL_law_1189 rfl ?_
    refine r_iload_n dL_law_1190 rfl ?_
    refine r_iconst dL_law_1191 (by decide) ?_
    refine r_iadd dL_law_1192 (w32_id (by omega)) ?_
    refine r_sld dL_law_1193 (by omega) (by omega) rfl ?_
    refine r_cq3 dL_law_1194 clL_150 sf429 (by decide) (by decide) rfl (by decide) (Nat.le_of_ble_eq_true rfl) hr hn (fun v9 S9 M9 q hok => ?_)
    obtain ⟨rfl, rfl, rfl⟩ := q
    exact r_icmp_eq (tgt := 1541) dL_law_1197 (by decide) (fun _ => nx _ _ _ _ hJ) (fun hq => absurd rfl hq)
theorem law_32 {lx : List Int} {M : Me} {x y z i : Int} {n1 n2 : Nat} (hI : INV M) (hi : 0 ≤ i ∧ i + 6 ≤ lx.length) (hl : lx.length ≤ 3072) (hn : n1 ≤ 600000 ∧ n2 ≤ 7302250) (nx : LNX lx i n1 n2) : LV lx 1202 i (Sf x y z) M n1 n2 := by
  obtain ⟨v, x', y', z', N1, N2, hc, hr, hJ⟩ := (op_offer hI : OpR kX10_offer kX11_offer 2 1 [(0, lx.getD (i + 1).toNat 0)] M) x y z
  refine r_aload_n dL_law_1202 rfl (by decide) ?_
  refine r_sload_n dL_law_1203 rfl ?_
  refine r_iload_n dL_law_1204 rfl ?_
  refine r_iconst dL_law_1205 (by decide) ?_
  refine r_iadd dL_law_1206 (w32_id (by omega)) ?_
  refine r_sld dL_law_1207 (by omega) (by omega) rfl ?_
  refine r_cq1 dL_law_1208 clL_151 sf0 (by decide) (by decide) rfl (by decide) (Nat.le_of_ble_eq_true rfl) hc hn (fun v9 S9 M9 q hok => ?_)
  obtain ⟨rfl, rfl, rfl⟩ := q
  obtain ⟨w, rfl, -⟩ := hok
  refine r_aload_n dL_law_1211 rfl (by decide) ?_
  refine r_sload_n dL_law_1212 rfl ?_
  refine r_iload_n dL_law_1213 rfl ?_
  refine r_iconst dL_law_1214 (by decide) ?_
  refine r_iadd dL_law_1215 (w32_id (by omega)) ?_
  refine r_sld dL_law_1216 (by omega) (by omega) rfl ?_
  refine r_cq1 dL_law_1217 clL_154 sf429 (by decide) (by decide) rfl (by decide) (Nat.le_of_ble_eq_true rfl) hr hn (fun v9 S9 M9 q hok => ?_)
  obtain ⟨rfl, rfl, rfl⟩ := q
  exact r_icmp_eq (tgt := 1541) dL_law_1220 (by decide) (fun _ => nx _ _ _ _ hJ) (fun hq => absurd rfl hq)
theorem law_33 {lx : List Int} {M : Me} {x y z i : Int} {n1 n2 : Nat} (hI : INV M) (hi : 0 ≤ i ∧ i + 6 ≤ lx.length) (hl : lx.length ≤ 3072) (hn : n1 ≤ 600000 ∧ n2 ≤ 7302250) (nx : LNX lx i n1 n2) : LV lx 1225 i (Sf x y z) M n1 n2 := by
  by_cases hb : lx.getD (i + 1).toNat 0 = 0
  · obtain ⟨v, x', y', z', N1, N2, hc, hr, hJ⟩ := (op_price hI : OpR kX10_price kX11_price 2 0 [(0, 0)] M) x y z
    refine r_aload_n dL_law_1225 rfl (by decide) ?_
    refine r_sload_n dL_law_1226 rfl ?_
    refine r_iload_n dL_law_1227 rfl ?_
    refine r_iconst dL_law_1228 (by decide) ?_
    refine r_iadd dL_law_1229 (w32_id (by omega)) ?_
    refine r_sld dL_law_1230 (by omega) (by omega) rfl ?_
    refine r_if_eq (tgt := 1238) dL_law_1231 (by decide) (fun hq => ?_) (fun hq => absurd hb hq)
    refine r_iconst dL_law_1238 (by decide) ?_
    refine r_cq1 dL_law_1239 clL_155 sf0 (by decide) (by decide) rfl (by decide) (Nat.le_of_ble_eq_true rfl) hc hn (fun v9 S9 M9 q hok => ?_)
    obtain ⟨rfl, rfl, rfl⟩ := q
    obtain ⟨w, rfl, -⟩ := hok
    refine r_aload_n dL_law_1242 rfl (by decide) ?_
    refine r_sload_n dL_law_1243 rfl ?_
    refine r_iload_n dL_law_1244 rfl ?_
    refine r_iconst dL_law_1245 (by decide) ?_
    refine r_iadd dL_law_1246 (w32_id (by omega)) ?_
    refine r_sld dL_law_1247 (by omega) (by omega) rfl ?_
    refine r_if_eq (tgt := 1255) dL_law_1248 (by decide) (fun hq => ?_) (fun hq => absurd hb hq)
    refine r_iconst dL_law_1255 (by decide) ?_
    refine r_cq1 dL_law_1256 clL_158 sf429 (by decide) (by decide) rfl (by decide) (Nat.le_of_ble_eq_true rfl) hr hn (fun v9 S9 M9 q hok => ?_)
    obtain ⟨rfl, rfl, rfl⟩ := q
    exact r_icmp_eq (tgt := 1541) dL_law_1259 (by decide) (fun _ => nx _ _ _ _ hJ) (fun hq => absurd rfl hq)
  · obtain ⟨v, x', y', z', N1, N2, hc, hr, hJ⟩ := (op_price hI : OpR kX10_price kX11_price 2 0 [(0, 1)] M) x y z
    refine r_aload_n dL_law_1225 rfl (by decide) ?_
    refine r_sload_n dL_law_1226 rfl ?_
    refine r_iload_n dL_law_1227 rfl ?_
    refine r_iconst dL_law_1228 (by decide) ?_
    refine r_iadd dL_law_1229 (w32_id (by omega)) ?_
    refine r_sld dL_law_1230 (by omega) (by omega) rfl ?_
    refine r_if_eq (tgt := 1238) dL_law_1231 (by decide) (fun hq => absurd hq hb) (fun hq => ?_)
    refine r_iconst dL_law_1234 (by decide) ?_
    refine r_goto (tgt := 1239) dL_law_1235 (by decide) ?_
    refine r_cq1 dL_law_1239 clL_155 sf0 (by decide) (by decide) rfl (by decide) (Nat.le_of_ble_eq_true rfl) hc hn (fun v9 S9 M9 q hok => ?_)
    obtain ⟨rfl, rfl, rfl⟩ := q
    obtain ⟨w, rfl, -⟩ := hok
    refine r_aload_n dL_law_1242 rfl (by decide) ?_
    refine r_sload_n dL_law_1243 rfl ?_
    refine r_iload_n dL_law_1244 rfl ?_
    refine r_iconst dL_law_1245 (by decide) ?_
    refine r_iadd dL_law_1246 (w32_id (by omega)) ?_
    refine r_sld dL_law_1247 (by omega) (by omega) rfl ?_
    refine r_if_eq (tgt := 1255) dL_law_1248 (by decide) (fun hq => absurd hq hb) (fun hq => ?_)
    refine r_iconst dL_law_1251 (by decide) ?_
    refine r_goto (tgt := 1256) dL_law_1252 (by decide) ?_
    refine r_cq1 dL_law_1256 clL_158 sf429 (by decide) (by decide) rfl (by decide) (Nat.le_of_ble_eq_true rfl) hr hn (fun v9 S9 M9 q hok => ?_)
    obtain ⟨rfl, rfl, rfl⟩ := q
    exact r_icmp_eq (tgt := 1541) dL_law_1259 (by decide) (fun _ => nx _ _ _ _ hJ) (fun hq => absurd rfl hq)
theorem law_34 {lx : List Int} {M : Me} {x y z i : Int} {n1 n2 : Nat} (hI : INV M) (hi : 0 ≤ i ∧ i + 6 ≤ lx.length) (hl : lx.length ≤ 3072) (hn : n1 ≤ 600000 ∧ n2 ≤ 7302250) (nx : LNX lx i n1 n2) : LV lx 1264 i (Sf x y z) M n1 n2 := by
  by_cases hb : lx.getD (i + 5).toNat 0 = 0
  · obtain ⟨v, x', y', z', N1, N2, hc, hr, hJ⟩ := (op_wrongly hI : OpR kX10_wrongly kX11_wrongly 2 1 [(0, lx.getD (i + 1).toNat 0), (0, lx.getD (i + 2).toNat 0), (0, lx.getD (i + 3).toNat 0), (0, lx.getD (i + 4).toNat 0), (0, 0)] M) x y z
    refine r_aload_n dL_law_1264 rfl (by decide) ?_
    refine r_sload_n dL_law_1265 rfl ?_
    refine r_iload_n dL_law_1266 rfl ?_
    refine r_iconst dL_law_1267 (by decide) ?_
    refine r_iadd dL_law_1268 (w32_id (by omega)) ?_
    refine r_sld dL_law_1269 (by omega) (by omega) rfl ?_
    refine r_sload_n dL_law_1270 rfl ?_
    refine r_iload_n dL_law_1271 rfl ?_
    refine r_iconst dL_law_1272 (by decide) ?_
    refine r_iadd dL_law_1273 (w32_id (by omega)) ?_
    refine r_sld dL_law_1274 (by omega) (by omega) rfl ?_
    refine r_sload_n dL_law_1275 rfl ?_
    refine r_iload_n dL_law_1276 rfl ?_
    refine r_iconst dL_law_1277 (by decide) ?_
    refine r_iadd dL_law_1278 (w32_id (by omega)) ?_
    refine r_sld dL_law_1279 (by omega) (by omega) rfl ?_
    refine r_sload_n dL_law_1280 rfl ?_
    refine r_iload_n dL_law_1281 rfl ?_
    refine r_iconst dL_law_1282 (by decide) ?_
    refine r_iadd dL_law_1283 (w32_id (by omega)) ?_
    refine r_sld dL_law_1284 (by omega) (by omega) rfl ?_
    refine r_sload_n dL_law_1285 rfl ?_
    refine r_iload_n dL_law_1286 rfl ?_
    refine r_iconst dL_law_1287 (by decide) ?_
    refine r_iadd dL_law_1288 (w32_id (by omega)) ?_
    refine r_sld dL_law_1289 (by omega) (by omega) rfl ?_
    refine r_if_eq (tgt := 1297) dL_law_1290 (by decide) (fun hq => ?_) (fun hq => absurd hb hq)
    refine r_iconst dL_law_1297 (by decide) ?_
    refine r_cq5 dL_law_1298 clL_159 sf0 (by decide) (by decide) rfl (by decide) (Nat.le_of_ble_eq_true rfl) hc hn (fun v9 S9 M9 q hok => ?_)
    obtain ⟨rfl, rfl, rfl⟩ := q
    obtain ⟨w, rfl, -⟩ := hok
    refine r_aload_n dL_law_1301 rfl (by decide) ?_
    refine r_sload_n dL_law_1302 rfl ?_
    refine r_iload_n dL_law_1303 rfl ?_
    refine r_iconst dL_law_1304 (by decide) ?_
    refine r_iadd dL_law_1305 (w32_id (by omega)) ?_
    refine r_sld dL_law_1306 (by omega) (by omega) rfl ?_
    refine r_sload_n dL_law_1307 rfl ?_
    refine r_iload_n dL_law_1308 rfl ?_
    refine r_iconst dL_law_1309 (by decide) ?_
    refine r_iadd dL_law_1310 (w32_id (by omega)) ?_
    refine r_sld dL_law_1311 (by omega) (by omega) rfl ?_
    refine r_sload_n dL_law_1312 rfl ?_
    refine r_iload_n dL_law_1313 rfl ?_
    refine r_iconst dL_law_1314 (by decide) ?_
    refine r_iadd dL_law_1315 (w32_id (by omega)) ?_
    refine r_sld dL_law_1316 (by omega) (by omega) rfl ?_
    refine r_sload_n dL_law_1317 rfl ?_
    refine r_iload_n dL_law_1318 rfl ?_
    refine r_iconst dL_law_1319 (by decide) ?_
    refine r_iadd dL_law_1320 (w32_id (by omega)) ?_
    refine r_sld dL_law_1321 (by omega) (by omega) rfl ?_
    refine r_sload_n dL_law_1322 rfl ?_
    refine r_iload_n dL_law_1323 rfl ?_
    refine r_iconst dL_law_1324 (by decide) ?_
    refine r_iadd dL_law_1325 (w32_id (by omega)) ?_
    refine r_sld dL_law_1326 (by omega) (by omega) rfl ?_
    refine r_if_eq (tgt := 1334) dL_law_1327 (by decide) (fun hq => ?_) (fun hq => absurd hb hq)
    refine r_iconst dL_law_1334 (by decide) ?_
    refine r_cq5 dL_law_1335 clL_163 sf429 (by decide) (by decide) rfl (by decide) (Nat.le_of_ble_eq_true rfl) hr hn (fun v9 S9 M9 q hok => ?_)
    obtain ⟨rfl, rfl, rfl⟩ := q
    refine r_lcmp dL_law_1338 ?_
    exact r_if_eq (tgt := 1541) dL_law_1339 (by decide) (fun _ => nx _ _ _ _ hJ) (fun hq => absurd cmp_self hq)
  · obtain ⟨v, x', y', z', N1, N2, hc, hr, hJ⟩ := (op_wrongly hI : OpR kX10_wrongly kX11_wrongly 2 1 [(0, lx.getD (i + 1).toNat 0), (0, lx.getD (i + 2).toNat 0), (0, lx.getD (i + 3).toNat 0), (0, lx.getD (i + 4).toNat 0), (0, 1)] M) x y z
    refine r_aload_n dL_law_1264 rfl (by decide) ?_
    refine r_sload_n dL_law_1265 rfl ?_
    refine r_iload_n dL_law_1266 rfl ?_
    refine r_iconst dL_law_1267 (by decide) ?_
    refine r_iadd dL_law_1268 (w32_id (by omega)) ?_
    refine r_sld dL_law_1269 (by omega) (by omega) rfl ?_
    refine r_sload_n dL_law_1270 rfl ?_
    refine r_iload_n dL_law_1271 rfl ?_
    refine r_iconst dL_law_1272 (by decide) ?_
    refine r_iadd dL_law_1273 (w32_id (by omega)) ?_
    refine r_sld dL_law_1274 (by omega) (by omega) rfl ?_
    refine r_sload_n dL_law_1275 rfl ?_
    refine r_iload_n dL_law_1276 rfl ?_
    refine r_iconst dL_law_1277 (by decide) ?_
    refine r_iadd dL_law_1278 (w32_id (by omega)) ?_
    refine r_sld dL_law_1279 (by omega) (by omega) rfl ?_
    refine r_sload_n dL_law_1280 rfl ?_
    refine r_iload_n dL_law_1281 rfl ?_
    refine r_iconst dL_law_1282 (by decide) ?_
    refine r_iadd dL_law_1283 (w32_id (by omega)) ?_
    refine r_sld dL_law_1284 (by omega) (by omega) rfl ?_
    refine r_sload_n dL_law_1285 rfl ?_
    refine r_iload_n dL_law_1286 rfl ?_
    refine r_iconst dL_law_1287 (by decide) ?_
    refine r_iadd dL_law_1288 (w32_id (by omega)) ?_
    refine r_sld dL_law_1289 (by omega) (by omega) rfl ?_
    refine r_if_eq (tgt := 1297) dL_law_1290 (by decide) (fun hq => absurd hq hb) (fun hq => ?_)
    refine r_iconst dL_law_1293 (by decide) ?_
    refine r_goto (tgt := 1298) dL_law_1294 (by decide) ?_
    refine r_cq5 dL_law_1298 clL_159 sf0 (by decide) (by decide) rfl (by decide) (Nat.le_of_ble_eq_true rfl) hc hn (fun v9 S9 M9 q hok => ?_)
    obtain ⟨rfl, rfl, rfl⟩ := q
    obtain ⟨w, rfl, -⟩ := hok
    refine r_aload_n dL_law_1301 rfl (by decide) ?_
    refine r_sload_n dL_law_1302 rfl ?_
    refine r_iload_n dL_law_1303 rfl ?_
    refine r_iconst dL_law_1304 (by decide) ?_
    refine r_iadd dL_law_1305 (w32_id (by omega)) ?_
    refine r_sld dL_law_1306 (by omega) (by omega) rfl ?_
    refine r_sload_n dL_law_1307 rfl ?_
    refine r_iload_n dL_law_1308 rfl ?_
    refine r_iconst dL_law_1309 (by decide) ?_
    refine r_iadd dL_law_1310 (w32_id (by omega)) ?_
    refine r_sld dL_law_1311 (by omega) (by omega) rfl ?_
    refine r_sload_n dL_law_1312 rfl ?_
    refine r_iload_n dL_law_1313 rfl ?_
    refine r_iconst dL_law_1314 (by decide) ?_
    refine r_iadd dL_law_1315 (w32_id (by omega)) ?_
    refine r_sld dL_law_1316 (by omega) (by omega) rfl ?_
    refine r_sload_n dL_law_1317 rfl ?_
    refine r_iload_n dL_law_1318 rfl ?_
    refine r_iconst dL_law_1319 (by decide) ?_
    refine r_iadd dL_law_1320 (w32_id (by omega)) ?_
    refine r_sld dL_law_1321 (by omega) (by omega) rfl ?_
    refine r_sload_n dL_law_1322 rfl ?_
    refine r_iload_n dL_law_1323 rfl ?_
    refine r_iconst dL_law_1324 (by decide) ?_
    refine r_iadd dL_law_1325 (w32_id (by omega)) ?_
    refine r_sld dL_law_1326 (by omega) (by omega) rfl ?_
    refine r_if_eq (tgt := 1334) dL_law_1327 (by decide) (fun hq => absurd hq hb) (fun hq => ?_)
    refine r_iconst dL_law_1330 (by decide) ?_
    refine r_goto (tgt := 1335) dL_law_1331 (by decide) ?_
    refine r_cq5 dL_law_1335 clL_163 sf429 (by decide) (by decide) rfl (by decide) (Nat.le_of_ble_eq_true rfl) hr hn (fun v9 S9 M9 q hok => ?_)
    obtain ⟨rfl, rfl, rfl⟩ := q
    refine r_lcmp dL_law_1338 ?_
    exact r_if_eq (tgt := 1541) dL_law_1339 (by decide) (fun _ => nx _ _ _ _ hJ) (fun hq => absurd cmp_self hq)
theorem law_35 {lx : List Int} {M : Me} {x y z i : Int} {n1 n2 : Nat} (hI : INV M) (hi : 0 ≤ i ∧ i + 6 ≤ lx.length) (hl : lx.length ≤ 3072) (hn : n1 ≤ 600000 ∧ n2 ≤ 7302250) (nx : LNX lx i n1 n2) : LV lx 1344 i (Sf x y z) M n1 n2 := by
  obtain ⟨v, x', y', z', N1, N2, hc, hr, hJ⟩ := (op_priced hI : OpR kX10_priced kX11_priced 2 2 [(0, lx.getD (i + 1).toNat 0), (0, lx.getD (i + 2).toNat 0)] M) x y z
  refine r_aload_n dL_law_1344 rfl (by decide) ?_
  refine r_sload_n dL_law_1345 rfl ?_
  refine r_iload_n dL_law_1346 rfl ?_
  refine r_iconst dL_law_1347 (by decide) ?_
  refine r_iadd dL_law_1348 (w32_id (by omega)) ?_
  refine r_sld dL_law_1349 (by omega) (by omega) rfl ?_
  refine r_sload_n dL_law_1350 rfl ?_
  refine r_iload_n dL_law_1351 rfl ?_
  refine r_iconst dL_law_1352 (by decide) ?_
  refine r_iadd dL_law_1353 (w32_id (by omega)) ?_
  refine r_sld dL_law_1354 (by omega) (by omega) rfl ?_
  refine r_cq2 dL_law_1355 clL_164 sf0 (by decide) (by decide) rfl (by decide) (Nat.le_of_ble_eq_true rfl) hc hn (fun v9 S9 M9 q hok => ?_)
  obtain ⟨rfl, rfl, rfl⟩ := q
  obtain ⟨w, rfl, -⟩ := hok
  refine r_aload_n dL_law_1358 rfl (by decide) ?_
  refine r_sload_n dL_law_1359 rfl ?_
  refine r_iload_n dL_law_1360 rfl ?_
  refine r_iconst dL_law_1361 (by decide) ?_
  refine r_iadd dL_law_1362 (w32_id (by omega)) ?_
  refine r_sld dL_law_1363 (by omega) (by omega) rfl ?_
  refine r_sload_n dL_law_1364 rfl ?_
  refine r_iload_n dL_law_1365 rfl ?_
  refine r_iconst dL_law_1366 (by decide) ?_
  refine r_iadd dL_law_1367 (w32_id (by omega)) ?_
  refine r_sld dL_law_1368 (by omega) (by omega) rfl ?_
  refine r_cq2 dL_law_1369 clL_167 sf429 (by decide) (by decide) rfl (by decide) (Nat.le_of_ble_eq_true rfl) hr hn (fun v9 S9 M9 q hok => ?_)
  obtain ⟨rfl, rfl, rfl⟩ := q
  exact r_icmp_eq (tgt := 1541) dL_law_1372 (by decide) (fun _ => nx _ _ _ _ hJ) (fun hq => absurd rfl hq)
theorem law_36 {lx : List Int} {M : Me} {x y z i : Int} {n1 n2 : Nat} (hI : INV M) (hi : 0 ≤ i ∧ i + 6 ≤ lx.length) (hl : lx.length ≤ 3072) (hn : n1 ≤ 600000 ∧ n2 ≤ 7302250) (nx : LNX lx i n1 n2) : LV lx 1377 i (Sf x y z) M n1 n2 := by
  obtain ⟨v, x', y', z', N1, N2, hc, hr, hJ⟩ := (op_whose hI : OpR kX10_whose kX11_whose 6 5 [] M) x y z
  refine r_aload_n dL_law_1377 rfl (by decide) ?_
  refine r_cq0 dL_law_1378 clL_168 sf0 (by decide) (by decide) rfl (by decide) (Nat.le_of_ble_eq_true rfl) hc hn (fun v9 S9 M9 q hok => ?_)
  obtain ⟨rfl, rfl, rfl⟩ := q
  obtain ⟨w, rfl, -⟩ := hok
  refine r_aload_n dL_law_1381 rfl (by decide) ?_
  refine r_cq0 dL_law_1382 clL_171 sf429 (by decide) (by decide) rfl (by decide) (Nat.le_of_ble_eq_true rfl) hr hn (fun v9 S9 M9 q hok => ?_)
  obtain ⟨rfl, rfl, rfl⟩ := q
  exact r_icmp_eq (tgt := 1541) dL_law_1385 (by decide) (fun _ => nx _ _ _ _ hJ) (fun hq => absurd rfl hq)
theorem law_37 {lx : List Int} {M : Me} {x y z i : Int} {n1 n2 : Nat} (hI : INV M) (hi : 0 ≤ i ∧ i + 6 ≤ lx.length) (hl : lx.length ≤ 3072) (hn : n1 ≤ 600000 ∧ n2 ≤ 7302250) (nx : LNX lx i n1 n2) : LV lx 1390 i (Sf x y z) M n1 n2 := by
  obtain ⟨v, x', y', z', N1, N2, hc, hr, hJ⟩ := (op_befell hI : OpR kX10_befell kX11_befell 1 2 [(0, lx.getD (i + 1).toNat 0), (0, lx.getD (i + 2).toNat 0)] M) x y z
  refine r_aload_n dL_law_1390 rfl (by decide) ?_
  refine r_sload_n dL_law_1391 rfl ?_
  refine r_iload_n dL_law_1392 rfl ?_
  refine r_iconst dL_law_1393 (by decide) ?_
  refine r_iadd dL_law_1394 (w32_id (by omega)) ?_
  refine r_sld dL_law_1395 (by omega) (by omega) rfl ?_
  refine r_sload_n dL_law_1396 rfl ?_
  refine r_iload_n dL_law_1397 rfl ?_
  refine r_iconst dL_law_1398 (by decide) ?_
  refine r_iadd dL_law_1399 (w32_id (by omega)) ?_
  refine r_sld dL_law_1400 (by omega) (by omega) rfl ?_
  refine r_cq2 dL_law_1401 clL_172 sf0 (by decide) (by decide) rfl (by decide) (Nat.le_of_ble_eq_true rfl) hc hn (fun v9 S9 M9 q hok => ?_)
  obtain ⟨rfl, rfl, rfl⟩ := q
  obtain ⟨w, rfl, -⟩ := hok
  refine r_aload_n dL_law_1404 rfl (by decide) ?_
  refine r_sload_n dL_law_1405 rfl ?_
  refine r_iload_n dL_law_1406 rfl ?_
  refine r_iconst dL_law_1407 (by decide) ?_
  refine r_iadd dL_law_1408 (w32_id (by omega)) ?_
  refine r_sld dL_law_1409 (by omega) (by omega) rfl ?_
  refine r_sload_n dL_law_1410 rfl ?_
  refine r_iload_n dL_law_1411 rfl ?_
  refine r_iconst dL_law_1412 (by decide) ?_
  refine r_iadd dL_law_1413 (w32_id (by omega)) ?_
  refine r_sld dL_law_1414 (by omega) (by omega) rfl ?_
  refine r_cq2 dL_law_1415 clL_175 sf429 (by decide) (by decide) rfl (by decide) (Nat.le_of_ble_eq_true rfl) hr hn (fun v9 S9 M9 q hok => ?_)
  obtain ⟨rfl, rfl, rfl⟩ := q
  exact r_icmp_eq (tgt := 1541) dL_law_1418 (by decide) (fun _ => nx _ _ _ _ hJ) (fun hq => absurd rfl hq)
theorem law_38 {lx : List Int} {M : Me} {x y z i : Int} {n1 n2 : Nat} (hI : INV M) (hi : 0 ≤ i ∧ i + 6 ≤ lx.length) (hl : lx.length ≤ 3072) (hn : n1 ≤ 600000 ∧ n2 ≤ 7302250) (nx : LNX lx i n1 n2) : LV lx 1423 i (Sf x y z) M n1 n2 := by
  obtain ⟨v, x', y', z', N1, N2, hc, hr, hJ⟩ := (op_eldest hI : OpR kX10_eldest kX11_eldest 3 2 [(0, lx.getD (i + 1).toNat 0)] M) x y z
  refine r_aload_n dL_law_1423 rfl (by decide) ?_
  refine r_sload_n dL_law_1424 rfl ?_
  refine r_iload_n dL_law_1425 rfl ?_
  refine r_iconst dL_law_1426 (by decide) ?_
  refine r_iadd dL_law_1427 (w32_id (by omega)) ?_
  refine r_sld dL_law_1428 (by omega) (by omega) rfl ?_
  refine r_cq1 dL_law_1429 clL_176 sf0 (by decide) (by decide) rfl (by decide) (Nat.le_of_ble_eq_true rfl) hc hn (fun v9 S9 M9 q hok => ?_)
  obtain ⟨rfl, rfl, rfl⟩ := q
  obtain ⟨w, rfl, -⟩ := hok
  refine r_aload_n dL_law_1432 rfl (by decide) ?_
  refine r_sload_n dL_law_1433 rfl ?_
  refine r_iload_n dL_law_1434 rfl ?_
  refine r_iconst dL_law_1435 (by decide) ?_
  refine r_iadd dL_law_1436 (w32_id (by omega)) ?_
  refine r_sld dL_law_1437 (by omega) (by omega) rfl ?_
  refine r_cq1 dL_law_1438 clL_179 sf429 (by decide) (by decide) rfl (by decide) (Nat.le_of_ble_eq_true rfl) hr hn (fun v9 S9 M9 q hok => ?_)
  obtain ⟨rfl, rfl, rfl⟩ := q
  exact r_icmp_eq (tgt := 1541) dL_law_1441 (by decide) (fun _ => nx _ _ _ _ hJ) (fun hq => absurd rfl hq)
theorem law_39 {lx : List Int} {M : Me} {x y z i : Int} {n1 n2 : Nat} (hI : INV M) (hi : 0 ≤ i ∧ i + 6 ≤ lx.length) (hl : lx.length ≤ 3072) (hn : n1 ≤ 600000 ∧ n2 ≤ 7302250) (nx : LNX lx i n1 n2) : LV lx 1446 i (Sf x y z) M n1 n2 := by
  obtain ⟨v, x', y', z', N1, N2, hc, hr, hJ⟩ := (op_blank hI : OpR kX10_blank kX11_blank 2 3 [] M) x y z
  refine r_aload_n dL_law_1446 rfl (by decide) ?_
  refine r_cq0 dL_law_1447 clL_180 sf0 (by decide) (by decide) rfl (by decide) (Nat.le_of_ble_eq_true rfl) hc hn (fun v9 S9 M9 q hok => ?_)
  obtain ⟨rfl, rfl, rfl⟩ := q
  obtain ⟨w, rfl, -⟩ := hok
  refine r_aload_n dL_law_1450 rfl (by decide) ?_
  refine r_cq0 dL_law_1451 clL_183 sf429 (by decide) (by decide) rfl (by decide) (Nat.le_of_ble_eq_true rfl) hr hn (fun v9 S9 M9 q hok => ?_)
  obtain ⟨rfl, rfl, rfl⟩ := q
  exact r_icmp_eq (tgt := 1541) dL_law_1454 (by decide) (fun _ => nx _ _ _ _ hJ) (fun hq => absurd rfl hq)
theorem law_40 {lx : List Int} {M : Me} {x y z i : Int} {n1 n2 : Nat} (hI : INV M) (hi : 0 ≤ i ∧ i + 6 ≤ lx.length) (hl : lx.length ≤ 3072) (hn : n1 ≤ 600000 ∧ n2 ≤ 7302250) (nx : LNX lx i n1 n2) : LV lx 1459 i (Sf x y z) M n1 n2 := by
  obtain ⟨v, x', y', z', N1, N2, hc, hr, hJ⟩ := (op_shared hI : OpR kX10_shared kX11_shared 3 3 [(0, lx.getD (i + 1).toNat 0), (0, lx.getD (i + 2).toNat 0)] M) x y z
  refine r_aload_n dL_law_1459 rfl (by decide) ?_
  refine r_sload_n dL_law_1460 rfl ?_
  refine r_iload_n dL_law_1461 rfl ?_
  refine r_iconst dL_law_1462 (by decide) ?_
  refine r_iadd dL_law_1463 (w32_id (by omega)) ?_
  refine r_sld dL_law_1464 (by omega) (by omega) rfl ?_
  refine r_sload_n dL_law_1465 rfl ?_
  refine r_iload_n dL_law_1466 rfl ?_
  refine r_iconst dL_law_1467 (by decide) ?_
  refine r_iadd dL_law_1468 (w32_id (by omega)) ?_
  refine r_sld dL_law_1469 (by omega) (by omega) rfl ?_
  refine r_cq2 dL_law_1470 clL_184 sf0 (by decide) (by decide) rfl (by decide) (Nat.le_of_ble_eq_true rfl) hc hn (fun v9 S9 M9 q hok => ?_)
  obtain ⟨rfl, rfl, rfl⟩ := q
  obtain ⟨w, rfl, -⟩ := hok
  refine r_aload_n dL_law_1473 rfl (by decide) ?_
  refine r_sload_n dL_law_1474 rfl ?_
  refine r_iload_n dL_law_1475 rfl ?_
  refine r_iconst dL_law_1476 (by decide) ?_
  refine r_iadd dL_law_1477 (w32_id (by omega)) ?_
  refine r_sld dL_law_1478 (by omega) (by omega) rfl ?_
  refine r_sload_n dL_law_1479 rfl ?_
  refine r_iload_n dL_law_1480 rfl ?_
  refine r_iconst dL_law_1481 (by decide) ?_
  refine r_iadd dL_law_1482 (w32_id (by omega)) ?_
  refine r_sld dL_law_1483 (by omega) (by omega) rfl ?_
  refine r_cq2 dL_law_1484 clL_187 sf429 (by decide) (by decide) rfl (by decide) (Nat.le_of_ble_eq_true rfl) hr hn (fun v9 S9 M9 q hok => ?_)
  obtain ⟨rfl, rfl, rfl⟩ := q
  exact r_icmp_eq (tgt := 1541) dL_law_1487 (by decide) (fun _ => nx _ _ _ _ hJ) (fun hq => absurd rfl hq)
theorem law_41 {lx : List Int} {M : Me} {x y z i : Int} {n1 n2 : Nat} (hI : INV M) (hi : 0 ≤ i ∧ i + 6 ≤ lx.length) (hl : lx.length ≤ 3072) (hn : n1 ≤ 600000 ∧ n2 ≤ 7302250) (nx : LNX lx i n1 n2) : LV lx 1492 i (Sf x y z) M n1 n2 := by
  obtain ⟨v, x', y', z', N1, N2, hc, hr, hJ⟩ := (op_image hI : OpR kX10_image kX11_image 4 1 [] M) x y z
  refine r_aload_n dL_law_1492 rfl (by decide) ?_
  refine r_cq0 dL_law_1493 clL_188 sf0 (by decide) (by decide) rfl (by decide) (Nat.le_of_ble_eq_true rfl) hc hn (fun v9 S9 M9 q hok => ?_)
  obtain ⟨rfl, rfl, rfl⟩ := q
  obtain ⟨w, rfl, -⟩ := hok
  refine r_aload_n dL_law_1496 rfl (by decide) ?_
  refine r_cq0 dL_law_1497 clL_191 sf429 (by decide) (by decide) rfl (by decide) (Nat.le_of_ble_eq_true rfl) hr hn (fun v9 S9 M9 q hok => ?_)
  obtain ⟨rfl, rfl, rfl⟩ := q
  exact r_icmp_eq (tgt := 1541) dL_law_1500 (by decide) (fun _ => nx _ _ _ _ hJ) (fun hq => absurd rfl hq)
theorem law_42 {lx : List Int} {M : Me} {x y z i : Int} {n1 n2 : Nat} (hI : INV M) (hi : 0 ≤ i ∧ i + 6 ≤ lx.length) (hl : lx.length ≤ 3072) (hn : n1 ≤ 600000 ∧ n2 ≤ 7302250) (nx : LNX lx i n1 n2) : LV lx 1505 i (Sf x y z) M n1 n2 := by
  obtain ⟨v, x', y', z', N1, N2, hc, hr, hJ⟩ := (op_back hI : OpR kX10_back kX11_back 4 1 [] M) x y z
  refine r_aload_n dL_law_1505 rfl (by decide) ?_
  refine r_cq0 dL_law_1506 clL_192 sf0 (by decide) (by decide) rfl (by decide) (Nat.le_of_ble_eq_true rfl) hc hn (fun v9 S9 M9 q hok => ?_)
  obtain ⟨rfl, rfl, rfl⟩ := q
  obtain ⟨w, rfl, -⟩ := hok
  refine r_aload_n dL_law_1509 rfl (by decide) ?_
  refine r_cq0 dL_law_1510 clL_195 sf429 (by decide) (by decide) rfl (by decide) (Nat.le_of_ble_eq_true rfl) hr hn (fun v9 S9 M9 q hok => ?_)
  obtain ⟨rfl, rfl, rfl⟩ := q
  exact r_icmp_eq (tgt := 1541) dL_law_1513 (by decide) (fun _ => nx _ _ _ _ hJ) (fun hq => absurd rfl hq)
theorem law_43 {lx : List Int} {M : Me} {x y z i : Int} {n1 n2 : Nat} (hI : INV M) (hi : 0 ≤ i ∧ i + 6 ≤ lx.length) (hl : lx.length ≤ 3072) (hn : n1 ≤ 600000 ∧ n2 ≤ 7302250) (nx : LNX lx i n1 n2) : LV lx 1518 i (Sf x y z) M n1 n2 := by
  obtain ⟨v, x', y', z', N1, N2, hc, hr, hJ⟩ := (op_about hI : OpR kX10_about kX11_about 0 1 [(0, lx.getD (i + 1).toNat 0)] M) x y z
  refine r_aload_n dL_law_1518 rfl (by decide) ?_
  refine r_sload_n dL_law_1519 rfl ?_
  refine r_iload_n dL_law_1520 rfl ?_
  refine r_iconst dL_law_1521 (by decide) ?_
  refine r_iadd dL_law_1522 (w32_id (by omega)) ?_
  refine r_sld dL_law_1523 (by omega) (by omega) rfl ?_
  refine r_cq1 dL_law_1524 clL_196 sf0 (by decide) (by decide) rfl (by decide) (Nat.le_of_ble_eq_true rfl) hc hn (fun v9 S9 M9 q hok => ?_)
  obtain ⟨rfl, rfl, rfl⟩ := q
  obtain ⟨w, rfl, -⟩ := hok
  refine r_aload_n dL_law_1527 rfl (by decide) ?_
  refine r_sload_n dL_law_1528 rfl ?_
  refine r_iload_n dL_law_1529 rfl ?_
  refine r_iconst dL_law_1530 (by decide) ?_
  refine r_iadd dL_law_1531 (w32_id (by omega)) ?_
  refine r_sld dL_law_1532 (by omega) (by omega) rfl ?_
  refine r_cq1 dL_law_1533 clL_199 sf429 (by decide) (by decide) rfl (by decide) (Nat.le_of_ble_eq_true rfl) hr hn (fun v9 S9 M9 q hok => ?_)
  obtain ⟨rfl, rfl, rfl⟩ := q
  exact r_icmp_eq (tgt := 1541) dL_law_1536 (by decide) (fun _ => nx _ _ _ _ hJ) (fun hq => absurd rfl hq)

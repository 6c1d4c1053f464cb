/-! the law: each turn of its loop -/
section A
variable {h : Nat → Nat → Int} {r d : Nat} {N : Int} {i : Int} {v5 v6 v7 v8 : AV} {c0 s0 L : Nat} {f : Nat → Int} {Q : Out → Prop}
/-- what comes after a turn -/
def LawG (N i : Int) (c0 s0 L : Nat) (f : Nat → Int) (Q : Out → Prop) : Prop := ∀ r1 d1 h1 c1 s1 u5 u6 u7 u8, Rel r1 d1 (N + 31) h1 h1 → c1 ≤ c0 + 1 ∧ s1 ≤ s0 + 6 → Rn (ev 312 2499 [AS 0, AR 1, AR 268, AR 282, AI i, u5, u6, u7, u8] [] (KS r1 d1, h1, c1, s1, L, f)) Q
theorem RbOK.split {c0 s0 L : Nat} {f : Nat → Int} {R1 : R4} (e : RbOK (c0, s0, L, f) R1) : ∃ c1 s1, R1 = (c1, s1, L, f) ∧ c1 ≤ c0 + 1 ∧ s1 ≤ s0 + 6 := by
  rcases e with rfl | rfl
  · exact ⟨c0, s0, rfl, by omega, by omega⟩
  · exact ⟨c0 + 1, s0 + 6, rfl, by omega, by omega⟩
theorem law0 (q : Rel r d N h h) (hN : 1 ≤ N ∧ N < 1000000000) (hi : 0 ≤ i) (hL : i + 6 ≤ (L : Int)) (hm : L ≤ 1000000) (g : LawG N i c0 s0 L f Q) : Rn (ev 312 292 [AS 0, AR 1, AR 268, AR 282, AI i, v5, v6, v7, v8] [] (KS r d, h, c0, s0, L, f)) Q := by
  have k1 := @kd_1 r d
  have k268 := @kd_268 r d
  have k282 := @kd_282 r d
  refine w_aloadn f312_292 rfl (by omega) ?_
  refine w_aloadns f312_293 rfl ?_
  refine w_iload f312_294 rfl ?_
  refine w_iconst (v := 1) f312_296 (by decide) ?_
  refine w_iaddn f312_297 (by omega) ?_
  refine w_sald f312_298 (by omega) rfl ?_
  refine w_aloadns f312_299 rfl ?_
  refine w_iload f312_300 rfl ?_
  refine w_iconst (v := 2) f312_302 (by decide) ?_
  refine w_iaddn f312_303 (by omega) ?_
  refine w_sald f312_304 (by omega) rfl ?_
  refine w_aloadns f312_305 rfl ?_
  refine w_iload f312_306 rfl ?_
  refine w_iconst (v := 3) f312_308 (by decide) ?_
  refine w_iaddn f312_309 (by omega) ?_
  refine w_sald f312_310 (by omega) rfl ?_
  refine w_aloadns f312_311 rfl ?_
  refine w_iload f312_312 rfl ?_
  refine w_iconst (v := 4) f312_314 (by decide) ?_
  refine w_iaddn f312_315 (by omega) ?_
  refine w_sald f312_316 (by omega) rfl ?_
  refine w_aloadns f312_317 rfl ?_
  refine w_iload f312_318 rfl ?_
  refine w_iconst (v := 5) f312_320 (by decide) ?_
  refine w_iaddn f312_321 (by omega) ?_
  refine w_sald f312_322 (by omega) rfl ?_
  refine w_qV f312_323 (Or.inl rfl) rfl (by omega) (okd_of (by assumption)) rfl ⟨Nat.le_of_ble_eq_true rfl, rfl, Nat.le_of_ble_eq_true rfl⟩ (en73 _ _ _ _ _ _) (op0 q hN) (fun o9 ho9 => ?_)
  obtain ⟨av, h1, r1, d1, rfl, ⟨v, rfl⟩, hu⟩ := ho9
  have j1 := @kd_1 r1 d1
  have j268 := @kd_268 r1 d1
  refine w_bok (pv73 _ _) ?_
  refine w_aloadn f312_326 rfl (by omega) ?_
  refine w_aloadns f312_327 rfl ?_
  refine w_iload f312_328 rfl ?_
  refine w_iconst (v := 1) f312_330 (by decide) ?_
  refine w_iaddn f312_331 (by omega) ?_
  refine w_sald f312_332 (by omega) rfl ?_
  refine w_aloadns f312_333 rfl ?_
  refine w_iload f312_334 rfl ?_
  refine w_iconst (v := 2) f312_336 (by decide) ?_
  refine w_iaddn f312_337 (by omega) ?_
  refine w_sald f312_338 (by omega) rfl ?_
  refine w_aloadns f312_339 rfl ?_
  refine w_iload f312_340 rfl ?_
  refine w_iconst (v := 3) f312_342 (by decide) ?_
  refine w_iaddn f312_343 (by omega) ?_
  refine w_sald f312_344 (by omega) rfl ?_
  refine w_aloadns f312_345 rfl ?_
  refine w_iload f312_346 rfl ?_
  refine w_iconst (v := 4) f312_348 (by decide) ?_
  refine w_iaddn f312_349 (by omega) ?_
  refine w_sald f312_350 (by omega) rfl ?_
  refine w_aloadns f312_351 rfl ?_
  refine w_iload f312_352 rfl ?_
  refine w_iconst (v := 5) f312_354 (by decide) ?_
  refine w_iaddn f312_355 (by omega) ?_
  refine w_sald f312_356 (by omega) rfl ?_
  refine w_qV f312_357 (Or.inl rfl) rfl (by omega) (okd_of (by assumption)) rfl ⟨Nat.le_of_ble_eq_true rfl, rfl, Nat.le_of_ble_eq_true rfl⟩ (en188 _ _ _ _ _ _) (hu) (fun o9 ho9 => ?_)
  obtain ⟨h2, rfl, q2⟩ := ho9
  refine w_bok (pv188 _ _) ?_
  refine w_ic_eq (t := 2499) f312_360 (by decide) (fun c1 => ?_) (fun c1 => absurd rfl c1)
  exact g _ _ _ _ _ _ _ _ _ q2 ⟨by omega, by omega⟩
theorem law1 (q : Rel r d N h h) (hN : 1 ≤ N ∧ N < 1000000000) (hi : 0 ≤ i) (hL : i + 6 ≤ (L : Int)) (hm : L ≤ 1000000) (g : LawG N i c0 s0 L f Q) : Rn (ev 312 365 [AS 0, AR 1, AR 268, AR 282, AI i, v5, v6, v7, v8] [] (KS r d, h, c0, s0, L, f)) Q := by
  have k1 := @kd_1 r d
  have k268 := @kd_268 r d
  have k282 := @kd_282 r d
  refine w_aloadn f312_365 rfl (by omega) ?_
  refine w_aloadns f312_366 rfl ?_
  refine w_iload f312_367 rfl ?_
  refine w_iconst (v := 1) f312_369 (by decide) ?_
  refine w_iaddn f312_370 (by omega) ?_
  refine w_sald f312_371 (by omega) rfl ?_
  refine w_qV f312_372 (Or.inl rfl) rfl (by omega) (okd_of (by assumption)) rfl ⟨Nat.le_of_ble_eq_true rfl, rfl, Nat.le_of_ble_eq_true rfl⟩ (en74 _ _) (op1 q hN) (fun o9 ho9 => ?_)
  obtain ⟨av, h1, r1, d1, rfl, ⟨v, rfl⟩, hu⟩ := ho9
  have j1 := @kd_1 r1 d1
  have j268 := @kd_268 r1 d1
  refine w_bok (pv74 _ _) ?_
  refine w_aloadn f312_375 rfl (by omega) ?_
  refine w_aloadns f312_376 rfl ?_
  refine w_iload f312_377 rfl ?_
  refine w_iconst (v := 1) f312_379 (by decide) ?_
  refine w_iaddn f312_380 (by omega) ?_
  refine w_sald f312_381 (by omega) rfl ?_
  refine w_qV f312_382 (Or.inl rfl) rfl (by omega) (okd_of (by assumption)) rfl ⟨Nat.le_of_ble_eq_true rfl, rfl, Nat.le_of_ble_eq_true rfl⟩ (en189 _ _) (hu) (fun o9 ho9 => ?_)
  obtain ⟨h2, rfl, q2⟩ := ho9
  refine w_bok (pv189 _ _) ?_
  refine w_ic_eq (t := 2499) f312_385 (by decide) (fun c1 => ?_) (fun c1 => absurd rfl c1)
  exact g _ _ _ _ _ _ _ _ _ q2 ⟨by omega, by omega⟩
theorem law2 (q : Rel r d N h h) (hN : 1 ≤ N ∧ N < 1000000000) (hi : 0 ≤ i) (hL : i + 6 ≤ (L : Int)) (hm : L ≤ 1000000) (g : LawG N i c0 s0 L f Q) : Rn (ev 312 390 [AS 0, AR 1, AR 268, AR 282, AI i, v5, v6, v7, v8] [] (KS r d, h, c0, s0, L, f)) Q := by
  have k1 := @kd_1 r d
  have k268 := @kd_268 r d
  have k282 := @kd_282 r d
  refine w_aloadn f312_390 rfl (by omega) ?_
  refine w_qV f312_391 (Or.inl rfl) rfl (by omega) (okd_of (by assumption)) rfl ⟨Nat.le_of_ble_eq_true rfl, rfl, Nat.le_of_ble_eq_true rfl⟩ (en75 _) (op2 q hN) (fun o9 ho9 => ?_)
  obtain ⟨av, h1, r1, d1, rfl, ⟨v, rfl⟩, hu⟩ := ho9
  have j1 := @kd_1 r1 d1
  have j268 := @kd_268 r1 d1
  refine w_bok (pv75 _ _) ?_
  refine w_aloadn f312_394 rfl (by omega) ?_
  refine w_qV f312_395 (Or.inl rfl) rfl (by omega) (okd_of (by assumption)) rfl ⟨Nat.le_of_ble_eq_true rfl, rfl, Nat.le_of_ble_eq_true rfl⟩ (en215 _) (hu) (fun o9 ho9 => ?_)
  obtain ⟨h2, rfl, q2⟩ := ho9
  refine w_bok (pv215 _ _) ?_
  refine w_ic_eq (t := 2499) f312_398 (by decide) (fun c1 => ?_) (fun c1 => absurd rfl c1)
  exact g _ _ _ _ _ _ _ _ _ q2 ⟨by omega, by omega⟩
theorem law3 (q : Rel r d N h h) (hN : 1 ≤ N ∧ N < 1000000000) (hi : 0 ≤ i) (hL : i + 6 ≤ (L : Int)) (hm : L ≤ 1000000) (g : LawG N i c0 s0 L f Q) : Rn (ev 312 403 [AS 0, AR 1, AR 268, AR 282, AI i, v5, v6, v7, v8] [] (KS r d, h, c0, s0, L, f)) Q := by
  have k1 := @kd_1 r d
  have k268 := @kd_268 r d
  have k282 := @kd_282 r d
  refine w_aloadn f312_403 rfl (by omega) ?_
  refine w_qV f312_404 (Or.inl rfl) rfl (by omega) (okd_of (by assumption)) rfl ⟨Nat.le_of_ble_eq_true rfl, rfl, Nat.le_of_ble_eq_true rfl⟩ (en76 _) (op3 q hN) (fun o9 ho9 => ?_)
  obtain ⟨av, h1, r1, d1, rfl, ⟨v, rfl⟩, hu⟩ := ho9
  have j1 := @kd_1 r1 d1
  have j268 := @kd_268 r1 d1
  refine w_bok (pv76 _ _) ?_
  refine w_aloadn f312_407 rfl (by omega) ?_
  refine w_qV f312_408 (Or.inl rfl) rfl (by omega) (okd_of (by assumption)) rfl ⟨Nat.le_of_ble_eq_true rfl, rfl, Nat.le_of_ble_eq_true rfl⟩ (en220 _) (hu) (fun o9 ho9 => ?_)
  obtain ⟨h2, rfl, q2⟩ := ho9
  refine w_bok (pv220 _ _) ?_
  refine w_ic_eq (t := 2499) f312_411 (by decide) (fun c1 => ?_) (fun c1 => absurd rfl c1)
  exact g _ _ _ _ _ _ _ _ _ q2 ⟨by omega, by omega⟩
theorem law4 (q : Rel r d N h h) (hN : 1 ≤ N ∧ N < 1000000000) (hi : 0 ≤ i) (hL : i + 6 ≤ (L : Int)) (hm : L ≤ 1000000) (g : LawG N i c0 s0 L f Q) : Rn (ev 312 416 [AS 0, AR 1, AR 268, AR 282, AI i, v5, v6, v7, v8] [] (KS r d, h, c0, s0, L, f)) Q := by
  have k1 := @kd_1 r d
  have k268 := @kd_268 r d
  have k282 := @kd_282 r d
  refine w_aloadn f312_416 rfl (by omega) ?_
  refine w_qV f312_417 (Or.inl rfl) rfl (by omega) (okd_of (by assumption)) rfl ⟨Nat.le_of_ble_eq_true rfl, rfl, Nat.le_of_ble_eq_true rfl⟩ (en77 _) (op4 q) (fun o9 ho9 => ?_)
  obtain ⟨av, h1, r1, d1, rfl, ⟨v, rfl⟩, hu⟩ := ho9
  have j1 := @kd_1 r1 d1
  have j268 := @kd_268 r1 d1
  refine w_bok (pv77 _ _) ?_
  refine w_aloadn f312_420 rfl (by omega) ?_
  refine w_qV f312_421 (Or.inl rfl) rfl (by omega) (okd_of (by assumption)) rfl ⟨Nat.le_of_ble_eq_true rfl, rfl, Nat.le_of_ble_eq_true rfl⟩ (en221 _) (hu) (fun o9 ho9 => ?_)
  obtain ⟨h2, rfl, q2⟩ := ho9
  refine w_bok (pv221 _ _) ?_
  refine w_ic_eq (t := 2499) f312_424 (by decide) (fun c1 => ?_) (fun c1 => absurd rfl c1)
  exact g _ _ _ _ _ _ _ _ _ q2 ⟨by omega, by omega⟩
theorem law5 (q : Rel r d N h h) (hN : 1 ≤ N ∧ N < 1000000000) (hi : 0 ≤ i) (hL : i + 6 ≤ (L : Int)) (hm : L ≤ 1000000) (g : LawG N i c0 s0 L f Q) : Rn (ev 312 429 [AS 0, AR 1, AR 268, AR 282, AI i, v5, v6, v7, v8] [] (KS r d, h, c0, s0, L, f)) Q := by
  have k1 := @kd_1 r d
  have k268 := @kd_268 r d
  have k282 := @kd_282 r d
  refine w_aloadn f312_429 rfl (by omega) ?_
  refine w_qV f312_430 (Or.inl rfl) rfl (by omega) (okd_of (by assumption)) rfl ⟨Nat.le_of_ble_eq_true rfl, rfl, Nat.le_of_ble_eq_true rfl⟩ (en78 _) (op5 q) (fun o9 ho9 => ?_)
  obtain ⟨av, h1, r1, d1, rfl, ⟨v, rfl⟩, hu⟩ := ho9
  have j1 := @kd_1 r1 d1
  have j268 := @kd_268 r1 d1
  refine w_bok (pv78 _ _) ?_
  refine w_aloadn f312_433 rfl (by omega) ?_
  refine w_qV f312_434 (Or.inl rfl) rfl (by omega) (okd_of (by assumption)) rfl ⟨Nat.le_of_ble_eq_true rfl, rfl, Nat.le_of_ble_eq_true rfl⟩ (en222 _) (hu) (fun o9 ho9 => ?_)
  obtain ⟨h2, rfl, q2⟩ := ho9
  refine w_bok (pv222 _ _) ?_
  refine w_ic_eq (t := 2499) f312_437 (by decide) (fun c1 => ?_) (fun c1 => absurd rfl c1)
  exact g _ _ _ _ _ _ _ _ _ q2 ⟨by omega, by omega⟩
theorem law6 (q : Rel r d N h h) (hN : 1 ≤ N ∧ N < 1000000000) (hi : 0 ≤ i) (hL : i + 6 ≤ (L : Int)) (hm : L ≤ 1000000) (g : LawG N i c0 s0 L f Q) : Rn (ev 312 442 [AS 0, AR 1, AR 268, AR 282, AI i, v5, v6, v7, v8] [] (KS r d, h, c0, s0, L, f)) Q := by
  have k1 := @kd_1 r d
  have k268 := @kd_268 r d
  have k282 := @kd_282 r d
  refine w_aloadn f312_442 rfl (by omega) ?_
  refine w_qV f312_443 (Or.inl rfl) rfl (by omega) (okd_of (by assumption)) rfl ⟨Nat.le_of_ble_eq_true rfl, rfl, Nat.le_of_ble_eq_true rfl⟩ (en79 _) (op6 q) (fun o9 ho9 => ?_)
  obtain ⟨av, h1, r1, d1, rfl, ⟨v, rfl⟩, hu⟩ := ho9
  have j1 := @kd_1 r1 d1
  have j268 := @kd_268 r1 d1
  refine w_bok (pv79 _ _) ?_
  refine w_aloadn f312_446 rfl (by omega) ?_
  refine w_qV f312_447 (Or.inl rfl) rfl (by omega) (okd_of (by assumption)) rfl ⟨Nat.le_of_ble_eq_true rfl, rfl, Nat.le_of_ble_eq_true rfl⟩ (en223 _) (hu) (fun o9 ho9 => ?_)
  obtain ⟨h2, rfl, q2⟩ := ho9
  refine w_bok (pv223 _ _) ?_
  refine w_ic_eq (t := 2499) f312_450 (by decide) (fun c1 => ?_) (fun c1 => absurd rfl c1)
  exact g _ _ _ _ _ _ _ _ _ q2 ⟨by omega, by omega⟩
theorem law7 (q : Rel r d N h h) (hN : 1 ≤ N ∧ N < 1000000000) (hi : 0 ≤ i) (hL : i + 6 ≤ (L : Int)) (hm : L ≤ 1000000) (g : LawG N i c0 s0 L f Q) : Rn (ev 312 455 [AS 0, AR 1, AR 268, AR 282, AI i, v5, v6, v7, v8] [] (KS r d, h, c0, s0, L, f)) Q := by
  have k1 := @kd_1 r d
  have k268 := @kd_268 r d
  have k282 := @kd_282 r d
  refine w_aloadn f312_455 rfl (by omega) ?_
  refine w_qV f312_456 (Or.inl rfl) rfl (by omega) (okd_of (by assumption)) rfl ⟨Nat.le_of_ble_eq_true rfl, rfl, Nat.le_of_ble_eq_true rfl⟩ (en80 _) (op7 q) (fun o9 ho9 => ?_)
  obtain ⟨av, h1, r1, d1, rfl, ⟨v, rfl⟩, hu⟩ := ho9
  have j1 := @kd_1 r1 d1
  have j268 := @kd_268 r1 d1
  refine w_bok (pv80 _ _) ?_
  refine w_aloadn f312_459 rfl (by omega) ?_
  refine w_qV f312_460 (Or.inl rfl) rfl (by omega) (okd_of (by assumption)) rfl ⟨Nat.le_of_ble_eq_true rfl, rfl, Nat.le_of_ble_eq_true rfl⟩ (en224 _) (hu) (fun o9 ho9 => ?_)
  obtain ⟨h2, rfl, q2⟩ := ho9
  refine w_bok (pv224 _ _) ?_
  refine w_ic_eq (t := 2499) f312_463 (by decide) (fun c1 => ?_) (fun c1 => absurd rfl c1)
  exact g _ _ _ _ _ _ _ _ _ q2 ⟨by omega, by omega⟩
theorem law8 (q : Rel r d N h h) (hN : 1 ≤ N ∧ N < 1000000000) (hi : 0 ≤ i) (hL : i + 6 ≤ (L : Int)) (hm : L ≤ 1000000) (g : LawG N i c0 s0 L f Q) : Rn (ev 312 468 [AS 0, AR 1, AR 268, AR 282, AI i, v5, v6, v7, v8] [] (KS r d, h, c0, s0, L, f)) Q := by
  have k1 := @kd_1 r d
  have k268 := @kd_268 r d
  have k282 := @kd_282 r d
  refine w_aloadn f312_468 rfl (by omega) ?_
  refine w_qV f312_469 (Or.inl rfl) rfl (by omega) (okd_of (by assumption)) rfl ⟨Nat.le_of_ble_eq_true rfl, rfl, Nat.le_of_ble_eq_true rfl⟩ (en81 _) (op8 q) (fun o9 ho9 => ?_)
  obtain ⟨av, h1, r1, d1, rfl, ⟨v, rfl⟩, hu⟩ := ho9
  have j1 := @kd_1 r1 d1
  have j268 := @kd_268 r1 d1
  refine w_bok (pv81 _ _) ?_
  refine w_aloadn f312_472 rfl (by omega) ?_
  refine w_qV f312_473 (Or.inl rfl) rfl (by omega) (okd_of (by assumption)) rfl ⟨Nat.le_of_ble_eq_true rfl, rfl, Nat.le_of_ble_eq_true rfl⟩ (en225 _) (hu) (fun o9 ho9 => ?_)
  obtain ⟨h2, rfl, q2⟩ := ho9
  refine w_bok (pv225 _ _) ?_
  refine w_ic_eq (t := 2499) f312_476 (by decide) (fun c1 => ?_) (fun c1 => absurd rfl c1)
  exact g _ _ _ _ _ _ _ _ _ q2 ⟨by omega, by omega⟩
theorem law9 (q : Rel r d N h h) (hN : 1 ≤ N ∧ N < 1000000000) (hi : 0 ≤ i) (hL : i + 6 ≤ (L : Int)) (hm : L ≤ 1000000) (g : LawG N i c0 s0 L f Q) : Rn (ev 312 481 [AS 0, AR 1, AR 268, AR 282, AI i, v5, v6, v7, v8] [] (KS r d, h, c0, s0, L, f)) Q := by
  have k1 := @kd_1 r d
  have k268 := @kd_268 r d
  have k282 := @kd_282 r d
  refine w_aloadn f312_481 rfl (by omega) ?_
  refine w_qV f312_482 (Or.inl rfl) rfl (by omega) (okd_of (by assumption)) rfl ⟨Nat.le_of_ble_eq_true rfl, rfl, Nat.le_of_ble_eq_true rfl⟩ (en82 _) (op9 q) (fun o9 ho9 => ?_)
  obtain ⟨av, h1, r1, d1, rfl, ⟨v, rfl⟩, hu⟩ := ho9
  have j1 := @kd_1 r1 d1
  have j268 := @kd_268 r1 d1
  refine w_bok (pv82 _ _) ?_
  refine w_aloadn f312_485 rfl (by omega) ?_
  refine w_qV f312_486 (Or.inl rfl) rfl (by omega) (okd_of (by assumption)) rfl ⟨Nat.le_of_ble_eq_true rfl, rfl, Nat.le_of_ble_eq_true rfl⟩ (en226 _) (hu) (fun o9 ho9 => ?_)
  obtain ⟨h2, rfl, q2⟩ := ho9
  refine w_bok (pv226 _ _) ?_
  refine w_ic_eq (t := 2499) f312_489 (by decide) (fun c1 => ?_) (fun c1 => absurd rfl c1)
  exact g _ _ _ _ _ _ _ _ _ q2 ⟨by omega, by omega⟩
theorem law10 (q : Rel r d N h h) (hN : 1 ≤ N ∧ N < 1000000000) (hi : 0 ≤ i) (hL : i + 6 ≤ (L : Int)) (hm : L ≤ 1000000) (g : LawG N i c0 s0 L f Q) : Rn (ev 312 494 [AS 0, AR 1, AR 268, AR 282, AI i, v5, v6, v7, v8] [] (KS r d, h, c0, s0, L, f)) Q := by
  have k1 := @kd_1 r d
  have k268 := @kd_268 r d
  have k282 := @kd_282 r d
  refine w_aloadn f312_494 rfl (by omega) ?_
  refine w_qV f312_495 (Or.inl rfl) rfl (by omega) (okd_of (by assumption)) rfl ⟨Nat.le_of_ble_eq_true rfl, rfl, Nat.le_of_ble_eq_true rfl⟩ (en83 _) (op10 q) (fun o9 ho9 => ?_)
  obtain ⟨av, h1, r1, d1, rfl, ⟨v, rfl⟩, hu⟩ := ho9
  have j1 := @kd_1 r1 d1
  have j268 := @kd_268 r1 d1
  refine w_bok (pv83 _ _) ?_
  refine w_aloadn f312_498 rfl (by omega) ?_
  refine w_qV f312_499 (Or.inl rfl) rfl (by omega) (okd_of (by assumption)) rfl ⟨Nat.le_of_ble_eq_true rfl, rfl, Nat.le_of_ble_eq_true rfl⟩ (en227 _) (hu) (fun o9 ho9 => ?_)
  obtain ⟨h2, rfl, q2⟩ := ho9
  refine w_bok (pv227 _ _) ?_
  refine w_ic_eq (t := 2499) f312_502 (by decide) (fun c1 => ?_) (fun c1 => absurd rfl c1)
  exact g _ _ _ _ _ _ _ _ _ q2 ⟨by omega, by omega⟩
theorem law11 (q : Rel r d N h h) (hN : 1 ≤ N ∧ N < 1000000000) (hi : 0 ≤ i) (hL : i + 6 ≤ (L : Int)) (hm : L ≤ 1000000) (g : LawG N i c0 s0 L f Q) : Rn (ev 312 507 [AS 0, AR 1, AR 268, AR 282, AI i, v5, v6, v7, v8] [] (KS r d, h, c0, s0, L, f)) Q := by
  have k1 := @kd_1 r d
  have k268 := @kd_268 r d
  have k282 := @kd_282 r d
  refine w_aloadn f312_507 rfl (by omega) ?_
  refine w_aloadns f312_508 rfl ?_
  refine w_iload f312_509 rfl ?_
  refine w_iconst (v := 1) f312_511 (by decide) ?_
  refine w_iaddn f312_512 (by omega) ?_
  refine w_sald f312_513 (by omega) rfl ?_
  refine w_aloadns f312_514 rfl ?_
  refine w_iload f312_515 rfl ?_
  refine w_iconst (v := 2) f312_517 (by decide) ?_
  refine w_iaddn f312_518 (by omega) ?_
  refine w_sald f312_519 (by omega) rfl ?_
  refine w_aloadn f312_520 rfl (by omega) ?_
  refine w_qS f312_521 (Or.inl rfl) (Nat.le_of_ble_eq_true rfl) rfl rfl ⟨Nat.le_of_ble_eq_true rfl, rfl, Nat.le_of_ble_eq_true rfl⟩ (en285 _ _ _ _) (op11 q) (fun o9 ho9 => ?_)
  obtain ⟨x, h1, R1, rfl, hR, hu⟩ := ho9
  obtain ⟨c1, s1, rfl, hc, hs⟩ := hR.split
  refine w_bok (pv285 _ _) ?_
  refine w_istore f312_524 (Nat.le_of_ble_eq_true rfl) (sto_9_5 rfl) ?_
  refine w_aloadn f312_526 rfl (by omega) ?_
  refine w_aloadns f312_527 rfl ?_
  refine w_iload f312_528 rfl ?_
  refine w_iconst (v := 1) f312_530 (by decide) ?_
  refine w_iaddn f312_531 (by omega) ?_
  refine w_sald f312_532 (by omega) rfl ?_
  refine w_aloadns f312_533 rfl ?_
  refine w_iload f312_534 rfl ?_
  refine w_iconst (v := 2) f312_536 (by decide) ?_
  refine w_iaddn f312_537 (by omega) ?_
  refine w_sald f312_538 (by omega) rfl ?_
  refine w_qV f312_539 (Or.inl rfl) rfl (by omega) (okd_of (by assumption)) rfl ⟨Nat.le_of_ble_eq_true rfl, rfl, Nat.le_of_ble_eq_true rfl⟩ (en234 _ _ _) (hu) (fun o9 ho9 => ?_)
  obtain ⟨y, h2, rfl, e6, e7, q2⟩ := ho9
  refine w_bok (pv234 _ _) ?_
  refine w_istore f312_542 (Nat.le_of_ble_eq_true rfl) (sto_9_6 rfl) ?_
  refine w_aloadn f312_544 rfl (by omega) ?_
  refine w_cV f312_545 (Or.inl rfl) rfl (by omega) (okd_of (by assumption)) rfl ⟨Nat.le_of_ble_eq_true rfl, rfl, Nat.le_of_ble_eq_true rfl⟩ (en147 _) (s147) (pv147 _ _) ?_
  rw [e6]
  refine w_iload f312_548 rfl ?_
  refine w_ic_eq (t := 555) f312_550 (by decide) (fun c1 => ?_) (fun c1 => absurd rfl c1)
  refine w_iload f312_555 rfl ?_
  refine w_if_ne (t := 572) f312_557 (by decide) (fun c2 => ?_) (fun c2 => ?_)
  · refine w_goto (t := 2499) f312_572 (by decide) ?_
    exact g _ _ _ _ _ _ _ _ _ q2 ⟨hc, hs⟩
  · refine w_aloadn f312_560 rfl (by omega) ?_
    refine w_iconst (v := 0) f312_561 (by decide) ?_
    refine w_lald f312_562 (by assumption) (by omega) (by exact (e7 c2).1) ?_
    refine w_iload f312_563 rfl ?_
    refine w_i2l f312_565 ?_
    refine w_lcmp f312_566 ?_
    refine w_ifl_eq (t := 572) f312_567 (by decide) (fun c3 => ?_) (fun c3 => absurd rfl c3)
    refine w_goto (t := 2499) f312_572 (by decide) ?_
    exact g _ _ _ _ _ _ _ _ _ q2 ⟨hc, hs⟩
theorem law12 (q : Rel r d N h h) (hN : 1 ≤ N ∧ N < 1000000000) (hi : 0 ≤ i) (hL : i + 6 ≤ (L : Int)) (hm : L ≤ 1000000) (g : LawG N i c0 s0 L f Q) : Rn (ev 312 575 [AS 0, AR 1, AR 268, AR 282, AI i, v5, v6, v7, v8] [] (KS r d, h, c0, s0, L, f)) Q := by
  have k1 := @kd_1 r d
  have k268 := @kd_268 r d
  have k282 := @kd_282 r d
  refine w_aloadn f312_575 rfl (by omega) ?_
  refine w_aloadns f312_576 rfl ?_
  refine w_iload f312_577 rfl ?_
  refine w_iconst (v := 1) f312_579 (by decide) ?_
  refine w_iaddn f312_580 (by omega) ?_
  refine w_sald f312_581 (by omega) rfl ?_
  refine w_aloadns f312_582 rfl ?_
  refine w_iload f312_583 rfl ?_
  refine w_iconst (v := 2) f312_585 (by decide) ?_
  refine w_iaddn f312_586 (by omega) ?_
  refine w_sald f312_587 (by omega) rfl ?_
  refine w_aloadn f312_588 rfl (by omega) ?_
  refine w_qS f312_589 (Or.inl rfl) (Nat.le_of_ble_eq_true rfl) rfl rfl ⟨Nat.le_of_ble_eq_true rfl, rfl, Nat.le_of_ble_eq_true rfl⟩ (en286 _ _ _ _) (op12 q) (fun o9 ho9 => ?_)
  obtain ⟨x, h1, R1, rfl, hR, hu⟩ := ho9
  obtain ⟨c1, s1, rfl, hc, hs⟩ := hR.split
  refine w_bok (pv286 _ _) ?_
  refine w_istore f312_592 (Nat.le_of_ble_eq_true rfl) (sto_9_5 rfl) ?_
  refine w_aloadn f312_594 rfl (by omega) ?_
  refine w_aloadns f312_595 rfl ?_
  refine w_iload f312_596 rfl ?_
  refine w_iconst (v := 1) f312_598 (by decide) ?_
  refine w_iaddn f312_599 (by omega) ?_
  refine w_sald f312_600 (by omega) rfl ?_
  refine w_aloadns f312_601 rfl ?_
  refine w_iload f312_602 rfl ?_
  refine w_iconst (v := 2) f312_604 (by decide) ?_
  refine w_iaddn f312_605 (by omega) ?_
  refine w_sald f312_606 (by omega) rfl ?_
  refine w_qV f312_607 (Or.inl rfl) rfl (by omega) (okd_of (by assumption)) rfl ⟨Nat.le_of_ble_eq_true rfl, rfl, Nat.le_of_ble_eq_true rfl⟩ (en235 _ _ _) (hu) (fun o9 ho9 => ?_)
  obtain ⟨y, h2, rfl, e6, e7, q2⟩ := ho9
  refine w_bok (pv235 _ _) ?_
  refine w_istore f312_610 (Nat.le_of_ble_eq_true rfl) (sto_9_6 rfl) ?_
  refine w_aloadn f312_612 rfl (by omega) ?_
  refine w_cV f312_613 (Or.inl rfl) rfl (by omega) (okd_of (by assumption)) rfl ⟨Nat.le_of_ble_eq_true rfl, rfl, Nat.le_of_ble_eq_true rfl⟩ (en147 _) (s147) (pv147 _ _) ?_
  rw [e6]
  refine w_iload f312_616 rfl ?_
  refine w_ic_eq (t := 623) f312_618 (by decide) (fun c1 => ?_) (fun c1 => absurd rfl c1)
  refine w_iload f312_623 rfl ?_
  refine w_if_ne (t := 640) f312_625 (by decide) (fun c2 => ?_) (fun c2 => ?_)
  · refine w_goto (t := 2499) f312_640 (by decide) ?_
    exact g _ _ _ _ _ _ _ _ _ q2 ⟨hc, hs⟩
  · refine w_aloadn f312_628 rfl (by omega) ?_
    refine w_iconst (v := 0) f312_629 (by decide) ?_
    refine w_lald f312_630 (by assumption) (by omega) (by exact (e7 c2).1) ?_
    refine w_iload f312_631 rfl ?_
    refine w_i2l f312_633 ?_
    refine w_lcmp f312_634 ?_
    refine w_ifl_eq (t := 640) f312_635 (by decide) (fun c3 => ?_) (fun c3 => absurd rfl c3)
    refine w_goto (t := 2499) f312_640 (by decide) ?_
    exact g _ _ _ _ _ _ _ _ _ q2 ⟨hc, hs⟩
theorem law13 (q : Rel r d N h h) (hN : 1 ≤ N ∧ N < 1000000000) (hi : 0 ≤ i) (hL : i + 6 ≤ (L : Int)) (hm : L ≤ 1000000) (g : LawG N i c0 s0 L f Q) : Rn (ev 312 643 [AS 0, AR 1, AR 268, AR 282, AI i, v5, v6, v7, v8] [] (KS r d, h, c0, s0, L, f)) Q := by
  have k1 := @kd_1 r d
  have k268 := @kd_268 r d
  have k282 := @kd_282 r d
  refine w_aloadn f312_643 rfl (by omega) ?_
  refine w_aloadns f312_644 rfl ?_
  refine w_iload f312_645 rfl ?_
  refine w_iconst (v := 1) f312_647 (by decide) ?_
  refine w_iaddn f312_648 (by omega) ?_
  refine w_sald f312_649 (by omega) rfl ?_
  refine w_aloadns f312_650 rfl ?_
  refine w_iload f312_651 rfl ?_
  refine w_iconst (v := 2) f312_653 (by decide) ?_
  refine w_iaddn f312_654 (by omega) ?_
  refine w_sald f312_655 (by omega) rfl ?_
  refine w_aloadn f312_656 rfl (by omega) ?_
  refine w_qS f312_657 (Or.inl rfl) (Nat.le_of_ble_eq_true rfl) rfl rfl ⟨Nat.le_of_ble_eq_true rfl, rfl, Nat.le_of_ble_eq_true rfl⟩ (en287 _ _ _ _) (op13 q) (fun o9 ho9 => ?_)
  obtain ⟨x, h1, R1, rfl, hR, hu⟩ := ho9
  obtain ⟨c1, s1, rfl, hc, hs⟩ := hR.split
  refine w_bok (pv287 _ _) ?_
  refine w_istore f312_660 (Nat.le_of_ble_eq_true rfl) (sto_9_5 rfl) ?_
  refine w_aloadn f312_662 rfl (by omega) ?_
  refine w_aloadns f312_663 rfl ?_
  refine w_iload f312_664 rfl ?_
  refine w_iconst (v := 1) f312_666 (by decide) ?_
  refine w_iaddn f312_667 (by omega) ?_
  refine w_sald f312_668 (by omega) rfl ?_
  refine w_aloadns f312_669 rfl ?_
  refine w_iload f312_670 rfl ?_
  refine w_iconst (v := 2) f312_672 (by decide) ?_
  refine w_iaddn f312_673 (by omega) ?_
  refine w_sald f312_674 (by omega) rfl ?_
  refine w_qV f312_675 (Or.inl rfl) rfl (by omega) (okd_of (by assumption)) rfl ⟨Nat.le_of_ble_eq_true rfl, rfl, Nat.le_of_ble_eq_true rfl⟩ (en236 _ _ _) (hu) (fun o9 ho9 => ?_)
  obtain ⟨y, h2, rfl, e6, e7, q2⟩ := ho9
  refine w_bok (pv236 _ _) ?_
  refine w_istore f312_678 (Nat.le_of_ble_eq_true rfl) (sto_9_6 rfl) ?_
  refine w_aloadn f312_680 rfl (by omega) ?_
  refine w_cV f312_681 (Or.inl rfl) rfl (by omega) (okd_of (by assumption)) rfl ⟨Nat.le_of_ble_eq_true rfl, rfl, Nat.le_of_ble_eq_true rfl⟩ (en147 _) (s147) (pv147 _ _) ?_
  rw [e6]
  refine w_iload f312_684 rfl ?_
  refine w_ic_eq (t := 691) f312_686 (by decide) (fun c1 => ?_) (fun c1 => absurd rfl c1)
  refine w_iload f312_691 rfl ?_
  refine w_if_ne (t := 708) f312_693 (by decide) (fun c2 => ?_) (fun c2 => ?_)
  · refine w_goto (t := 2499) f312_708 (by decide) ?_
    exact g _ _ _ _ _ _ _ _ _ q2 ⟨hc, hs⟩
  · refine w_aloadn f312_696 rfl (by omega) ?_
    refine w_iconst (v := 0) f312_697 (by decide) ?_
    refine w_lald f312_698 (by assumption) (by omega) (by exact (e7 c2).1) ?_
    refine w_iload f312_699 rfl ?_
    refine w_i2l f312_701 ?_
    refine w_lcmp f312_702 ?_
    refine w_ifl_eq (t := 708) f312_703 (by decide) (fun c3 => ?_) (fun c3 => absurd rfl c3)
    refine w_goto (t := 2499) f312_708 (by decide) ?_
    exact g _ _ _ _ _ _ _ _ _ q2 ⟨hc, hs⟩
theorem law14 (q : Rel r d N h h) (hN : 1 ≤ N ∧ N < 1000000000) (hi : 0 ≤ i) (hL : i + 6 ≤ (L : Int)) (hm : L ≤ 1000000) (g : LawG N i c0 s0 L f Q) : Rn (ev 312 711 [AS 0, AR 1, AR 268, AR 282, AI i, v5, v6, v7, v8] [] (KS r d, h, c0, s0, L, f)) Q := by
  have k1 := @kd_1 r d
  have k268 := @kd_268 r d
  have k282 := @kd_282 r d
  refine w_aloadn f312_711 rfl (by omega) ?_
  refine w_qV f312_712 (Or.inl rfl) rfl (by omega) (okd_of (by assumption)) rfl ⟨Nat.le_of_ble_eq_true rfl, rfl, Nat.le_of_ble_eq_true rfl⟩ (en87 _) (op14 q) (fun o9 ho9 => ?_)
  obtain ⟨av, h1, r1, d1, rfl, ⟨v, rfl⟩, hu⟩ := ho9
  have j1 := @kd_1 r1 d1
  have j268 := @kd_268 r1 d1
  refine w_bok (pv87 _ _) ?_
  refine w_aloadn f312_715 rfl (by omega) ?_
  refine w_qV f312_716 (Or.inl rfl) rfl (by omega) (okd_of (by assumption)) rfl ⟨Nat.le_of_ble_eq_true rfl, rfl, Nat.le_of_ble_eq_true rfl⟩ (en228 _) (hu) (fun o9 ho9 => ?_)
  obtain ⟨h2, rfl, q2⟩ := ho9
  refine w_bok (pv228 _ _) ?_
  refine w_ic_eq (t := 2499) f312_719 (by decide) (fun c1 => ?_) (fun c1 => absurd rfl c1)
  exact g _ _ _ _ _ _ _ _ _ q2 ⟨by omega, by omega⟩
theorem law15 (q : Rel r d N h h) (hN : 1 ≤ N ∧ N < 1000000000) (hi : 0 ≤ i) (hL : i + 6 ≤ (L : Int)) (hm : L ≤ 1000000) (g : LawG N i c0 s0 L f Q) : Rn (ev 312 724 [AS 0, AR 1, AR 268, AR 282, AI i, v5, v6, v7, v8] [] (KS r d, h, c0, s0, L, f)) Q := by
  have k1 := @kd_1 r d
  have k268 := @kd_268 r d
  have k282 := @kd_282 r d
  refine w_aloadn f312_724 rfl (by omega) ?_
  refine w_aloadns f312_725 rfl ?_
  refine w_iload f312_726 rfl ?_
  refine w_iconst (v := 1) f312_728 (by decide) ?_
  refine w_iaddn f312_729 (by omega) ?_
  refine w_sald f312_730 (by omega) rfl ?_
  refine w_aloadn f312_731 rfl (by omega) ?_
  refine w_qS f312_732 (Or.inl rfl) (Nat.le_of_ble_eq_true rfl) rfl rfl ⟨Nat.le_of_ble_eq_true rfl, rfl, Nat.le_of_ble_eq_true rfl⟩ (en288 _ _ _) (op15 q) (fun o9 ho9 => ?_)
  obtain ⟨x, h1, R1, rfl, hR, hu⟩ := ho9
  obtain ⟨c1, s1, rfl, hc, hs⟩ := hR.split
  refine w_bok (pv288 _ _) ?_
  refine w_istore f312_735 (Nat.le_of_ble_eq_true rfl) (sto_9_5 rfl) ?_
  refine w_aloadn f312_737 rfl (by omega) ?_
  refine w_aloadns f312_738 rfl ?_
  refine w_iload f312_739 rfl ?_
  refine w_iconst (v := 1) f312_741 (by decide) ?_
  refine w_iaddn f312_742 (by omega) ?_
  refine w_sald f312_743 (by omega) rfl ?_
  refine w_qV f312_744 (Or.inl rfl) rfl (by omega) (okd_of (by assumption)) rfl ⟨Nat.le_of_ble_eq_true rfl, rfl, Nat.le_of_ble_eq_true rfl⟩ (en241 _ _) (hu) (fun o9 ho9 => ?_)
  obtain ⟨y, h2, rfl, e6, e7, q2⟩ := ho9
  refine w_bok (pv241 _ _) ?_
  refine w_istore f312_747 (Nat.le_of_ble_eq_true rfl) (sto_9_6 rfl) ?_
  refine w_aloadn f312_749 rfl (by omega) ?_
  refine w_cV f312_750 (Or.inl rfl) rfl (by omega) (okd_of (by assumption)) rfl ⟨Nat.le_of_ble_eq_true rfl, rfl, Nat.le_of_ble_eq_true rfl⟩ (en147 _) (s147) (pv147 _ _) ?_
  rw [e6]
  refine w_iload f312_753 rfl ?_
  refine w_ic_eq (t := 760) f312_755 (by decide) (fun c1 => ?_) (fun c1 => absurd rfl c1)
  refine w_iload f312_760 rfl ?_
  refine w_if_ne (t := 777) f312_762 (by decide) (fun c2 => ?_) (fun c2 => ?_)
  · refine w_goto (t := 2499) f312_777 (by decide) ?_
    exact g _ _ _ _ _ _ _ _ _ q2 ⟨hc, hs⟩
  · refine w_aloadn f312_765 rfl (by omega) ?_
    refine w_iconst (v := 0) f312_766 (by decide) ?_
    refine w_lald f312_767 (by assumption) (by omega) (by exact (e7 c2).1) ?_
    refine w_iload f312_768 rfl ?_
    refine w_i2l f312_770 ?_
    refine w_lcmp f312_771 ?_
    refine w_ifl_eq (t := 777) f312_772 (by decide) (fun c3 => ?_) (fun c3 => absurd rfl c3)
    refine w_goto (t := 2499) f312_777 (by decide) ?_
    exact g _ _ _ _ _ _ _ _ _ q2 ⟨hc, hs⟩
theorem law16 (q : Rel r d N h h) (hN : 1 ≤ N ∧ N < 1000000000) (hi : 0 ≤ i) (hL : i + 6 ≤ (L : Int)) (hm : L ≤ 1000000) (g : LawG N i c0 s0 L f Q) : Rn (ev 312 780 [AS 0, AR 1, AR 268, AR 282, AI i, v5, v6, v7, v8] [] (KS r d, h, c0, s0, L, f)) Q := by
  have k1 := @kd_1 r d
  have k268 := @kd_268 r d
  have k282 := @kd_282 r d
  refine w_aloadn f312_780 rfl (by omega) ?_
  refine w_aloadns f312_781 rfl ?_
  refine w_iload f312_782 rfl ?_
  refine w_iconst (v := 1) f312_784 (by decide) ?_
  refine w_iaddn f312_785 (by omega) ?_
  refine w_sald f312_786 (by omega) rfl ?_
  refine w_aloadn f312_787 rfl (by omega) ?_
  refine w_qS f312_788 (Or.inl rfl) (Nat.le_of_ble_eq_true rfl) rfl rfl ⟨Nat.le_of_ble_eq_true rfl, rfl, Nat.le_of_ble_eq_true rfl⟩ (en289 _ _ _) (op16 q) (fun o9 ho9 => ?_)
  obtain ⟨x, h1, R1, rfl, hR, hu⟩ := ho9
  obtain ⟨c1, s1, rfl, hc, hs⟩ := hR.split
  refine w_bok (pv289 _ _) ?_
  refine w_istore f312_791 (Nat.le_of_ble_eq_true rfl) (sto_9_5 rfl) ?_
  refine w_aloadn f312_793 rfl (by omega) ?_
  refine w_aloadns f312_794 rfl ?_
  refine w_iload f312_795 rfl ?_
  refine w_iconst (v := 1) f312_797 (by decide) ?_
  refine w_iaddn f312_798 (by omega) ?_
  refine w_sald f312_799 (by omega) rfl ?_
  refine w_qV f312_800 (Or.inl rfl) rfl (by omega) (okd_of (by assumption)) rfl ⟨Nat.le_of_ble_eq_true rfl, rfl, Nat.le_of_ble_eq_true rfl⟩ (en242 _ _) (hu) (fun o9 ho9 => ?_)
  obtain ⟨y, h2, rfl, e6, e7, q2⟩ := ho9
  refine w_bok (pv242 _ _) ?_
  refine w_istore f312_803 (Nat.le_of_ble_eq_true rfl) (sto_9_6 rfl) ?_
  refine w_aloadn f312_805 rfl (by omega) ?_
  refine w_cV f312_806 (Or.inl rfl) rfl (by omega) (okd_of (by assumption)) rfl ⟨Nat.le_of_ble_eq_true rfl, rfl, Nat.le_of_ble_eq_true rfl⟩ (en147 _) (s147) (pv147 _ _) ?_
  rw [e6]
  refine w_iload f312_809 rfl ?_
  refine w_ic_eq (t := 816) f312_811 (by decide) (fun c1 => ?_) (fun c1 => absurd rfl c1)
  refine w_iload f312_816 rfl ?_
  refine w_if_ne (t := 833) f312_818 (by decide) (fun c2 => ?_) (fun c2 => ?_)
  · refine w_goto (t := 2499) f312_833 (by decide) ?_
    exact g _ _ _ _ _ _ _ _ _ q2 ⟨hc, hs⟩
  · refine w_aloadn f312_821 rfl (by omega) ?_
    refine w_iconst (v := 0) f312_822 (by decide) ?_
    refine w_lald f312_823 (by assumption) (by omega) (by exact (e7 c2).1) ?_
    refine w_iload f312_824 rfl ?_
    refine w_i2l f312_826 ?_
    refine w_lcmp f312_827 ?_
    refine w_ifl_eq (t := 833) f312_828 (by decide) (fun c3 => ?_) (fun c3 => absurd rfl c3)
    refine w_goto (t := 2499) f312_833 (by decide) ?_
    exact g _ _ _ _ _ _ _ _ _ q2 ⟨hc, hs⟩
theorem law17 (q : Rel r d N h h) (hN : 1 ≤ N ∧ N < 1000000000) (hi : 0 ≤ i) (hL : i + 6 ≤ (L : Int)) (hm : L ≤ 1000000) (g : LawG N i c0 s0 L f Q) : Rn (ev 312 836 [AS 0, AR 1, AR 268, AR 282, AI i, v5, v6, v7, v8] [] (KS r d, h, c0, s0, L, f)) Q := by
  have k1 := @kd_1 r d
  have k268 := @kd_268 r d
  have k282 := @kd_282 r d
  refine w_aloadn f312_836 rfl (by omega) ?_
  refine w_aloadns f312_837 rfl ?_
  refine w_iload f312_838 rfl ?_
  refine w_iconst (v := 1) f312_840 (by decide) ?_
  refine w_iaddn f312_841 (by omega) ?_
  refine w_sald f312_842 (by omega) rfl ?_
  refine w_aloadn f312_843 rfl (by omega) ?_
  refine w_qS f312_844 (Or.inl rfl) (Nat.le_of_ble_eq_true rfl) rfl rfl ⟨Nat.le_of_ble_eq_true rfl, rfl, Nat.le_of_ble_eq_true rfl⟩ (en290 _ _ _) (op17 q) (fun o9 ho9 => ?_)
  obtain ⟨x, h1, R1, rfl, hR, hu⟩ := ho9
  obtain ⟨c1, s1, rfl, hc, hs⟩ := hR.split
  refine w_bok (pv290 _ _) ?_
  refine w_istore f312_847 (Nat.le_of_ble_eq_true rfl) (sto_9_5 rfl) ?_
  refine w_aloadn f312_849 rfl (by omega) ?_
  refine w_aloadns f312_850 rfl ?_
  refine w_iload f312_851 rfl ?_
  refine w_iconst (v := 1) f312_853 (by decide) ?_
  refine w_iaddn f312_854 (by omega) ?_
  refine w_sald f312_855 (by omega) rfl ?_
  refine w_qV f312_856 (Or.inl rfl) rfl (by omega) (okd_of (by assumption)) rfl ⟨Nat.le_of_ble_eq_true rfl, rfl, Nat.le_of_ble_eq_true rfl⟩ (en237 _ _) (hu) (fun o9 ho9 => ?_)
  obtain ⟨y, h2, rfl, e6, e7, q2⟩ := ho9
  refine w_bok (pv237 _ _) ?_
  refine w_istore f312_859 (Nat.le_of_ble_eq_true rfl) (sto_9_6 rfl) ?_
  refine w_aloadn f312_861 rfl (by omega) ?_
  refine w_cV f312_862 (Or.inl rfl) rfl (by omega) (okd_of (by assumption)) rfl ⟨Nat.le_of_ble_eq_true rfl, rfl, Nat.le_of_ble_eq_true rfl⟩ (en147 _) (s147) (pv147 _ _) ?_
  rw [e6]
  refine w_iload f312_865 rfl ?_
  refine w_ic_eq (t := 872) f312_867 (by decide) (fun c1 => ?_) (fun c1 => absurd rfl c1)
  refine w_iload f312_872 rfl ?_
  refine w_if_ne (t := 889) f312_874 (by decide) (fun c2 => ?_) (fun c2 => ?_)
  · refine w_goto (t := 2499) f312_889 (by decide) ?_
    exact g _ _ _ _ _ _ _ _ _ q2 ⟨hc, hs⟩
  · refine w_aloadn f312_877 rfl (by omega) ?_
    refine w_iconst (v := 0) f312_878 (by decide) ?_
    refine w_lald f312_879 (by assumption) (by omega) (by exact (e7 c2).1) ?_
    refine w_iload f312_880 rfl ?_
    refine w_i2l f312_882 ?_
    refine w_lcmp f312_883 ?_
    refine w_ifl_eq (t := 889) f312_884 (by decide) (fun c3 => ?_) (fun c3 => absurd rfl c3)
    refine w_goto (t := 2499) f312_889 (by decide) ?_
    exact g _ _ _ _ _ _ _ _ _ q2 ⟨hc, hs⟩
theorem law18 (q : Rel r d N h h) (hN : 1 ≤ N ∧ N < 1000000000) (hi : 0 ≤ i) (hL : i + 6 ≤ (L : Int)) (hm : L ≤ 1000000) (g : LawG N i c0 s0 L f Q) : Rn (ev 312 892 [AS 0, AR 1, AR 268, AR 282, AI i, v5, v6, v7, v8] [] (KS r d, h, c0, s0, L, f)) Q := by
  have k1 := @kd_1 r d
  have k268 := @kd_268 r d
  have k282 := @kd_282 r d
  refine w_aloadn f312_892 rfl (by omega) ?_
  refine w_aloadns f312_893 rfl ?_
  refine w_iload f312_894 rfl ?_
  refine w_iconst (v := 1) f312_896 (by decide) ?_
  refine w_iaddn f312_897 (by omega) ?_
  refine w_sald f312_898 (by omega) rfl ?_
  refine w_aloadn f312_899 rfl (by omega) ?_
  refine w_qS f312_900 (Or.inl rfl) (Nat.le_of_ble_eq_true rfl) rfl rfl ⟨Nat.le_of_ble_eq_true rfl, rfl, Nat.le_of_ble_eq_true rfl⟩ (en291 _ _ _) (op18 q) (fun o9 ho9 => ?_)
  obtain ⟨x, h1, R1, rfl, hR, hu⟩ := ho9
  obtain ⟨c1, s1, rfl, hc, hs⟩ := hR.split
  refine w_bok (pv291 _ _) ?_
  refine w_istore f312_903 (Nat.le_of_ble_eq_true rfl) (sto_9_5 rfl) ?_
  refine w_aloadn f312_905 rfl (by omega) ?_
  refine w_aloadns f312_906 rfl ?_
  refine w_iload f312_907 rfl ?_
  refine w_iconst (v := 1) f312_909 (by decide) ?_
  refine w_iaddn f312_910 (by omega) ?_
  refine w_sald f312_911 (by omega) rfl ?_
  refine w_qV f312_912 (Or.inl rfl) rfl (by omega) (okd_of (by assumption)) rfl ⟨Nat.le_of_ble_eq_true rfl, rfl, Nat.le_of_ble_eq_true rfl⟩ (en238 _ _) (hu) (fun o9 ho9 => ?_)
  obtain ⟨y, h2, rfl, e6, e7, q2⟩ := ho9
  refine w_bok (pv238 _ _) ?_
  refine w_istore f312_915 (Nat.le_of_ble_eq_true rfl) (sto_9_6 rfl) ?_
  refine w_aloadn f312_917 rfl (by omega) ?_
  refine w_cV f312_918 (Or.inl rfl) rfl (by omega) (okd_of (by assumption)) rfl ⟨Nat.le_of_ble_eq_true rfl, rfl, Nat.le_of_ble_eq_true rfl⟩ (en147 _) (s147) (pv147 _ _) ?_
  rw [e6]
  refine w_iload f312_921 rfl ?_
  refine w_ic_eq (t := 928) f312_923 (by decide) (fun c1 => ?_) (fun c1 => absurd rfl c1)
  refine w_iload f312_928 rfl ?_
  refine w_if_ne (t := 945) f312_930 (by decide) (fun c2 => ?_) (fun c2 => ?_)
  · refine w_goto (t := 2499) f312_945 (by decide) ?_
    exact g _ _ _ _ _ _ _ _ _ q2 ⟨hc, hs⟩
  · refine w_aloadn f312_933 rfl (by omega) ?_
    refine w_iconst (v := 0) f312_934 (by decide) ?_
    refine w_lald f312_935 (by assumption) (by omega) (by exact (e7 c2).1) ?_
    refine w_iload f312_936 rfl ?_
    refine w_i2l f312_938 ?_
    refine w_lcmp f312_939 ?_
    refine w_ifl_eq (t := 945) f312_940 (by decide) (fun c3 => ?_) (fun c3 => absurd rfl c3)
    refine w_goto (t := 2499) f312_945 (by decide) ?_
    exact g _ _ _ _ _ _ _ _ _ q2 ⟨hc, hs⟩
theorem law19 (q : Rel r d N h h) (hN : 1 ≤ N ∧ N < 1000000000) (hi : 0 ≤ i) (hL : i + 6 ≤ (L : Int)) (hm : L ≤ 1000000) (g : LawG N i c0 s0 L f Q) : Rn (ev 312 948 [AS 0, AR 1, AR 268, AR 282, AI i, v5, v6, v7, v8] [] (KS r d, h, c0, s0, L, f)) Q := by
  have k1 := @kd_1 r d
  have k268 := @kd_268 r d
  have k282 := @kd_282 r d
  refine w_aloadn f312_948 rfl (by omega) ?_
  refine w_aloadns f312_949 rfl ?_
  refine w_iload f312_950 rfl ?_
  refine w_iconst (v := 1) f312_952 (by decide) ?_
  refine w_iaddn f312_953 (by omega) ?_
  refine w_sald f312_954 (by omega) rfl ?_
  refine w_aloadn f312_955 rfl (by omega) ?_
  refine w_qS f312_956 (Or.inl rfl) (Nat.le_of_ble_eq_true rfl) rfl rfl ⟨Nat.le_of_ble_eq_true rfl, rfl, Nat.le_of_ble_eq_true rfl⟩ (en292 _ _ _) (op19 q) (fun o9 ho9 => ?_)
  obtain ⟨x, h1, R1, rfl, hR, hu⟩ := ho9
  obtain ⟨c1, s1, rfl, hc, hs⟩ := hR.split
  refine w_bok (pv292 _ _) ?_
  refine w_istore f312_959 (Nat.le_of_ble_eq_true rfl) (sto_9_5 rfl) ?_
  refine w_aloadn f312_961 rfl (by omega) ?_
  refine w_aloadns f312_962 rfl ?_
  refine w_iload f312_963 rfl ?_
  refine w_iconst (v := 1) f312_965 (by decide) ?_
  refine w_iaddn f312_966 (by omega) ?_
  refine w_sald f312_967 (by omega) rfl ?_
  refine w_qV f312_968 (Or.inl rfl) rfl (by omega) (okd_of (by assumption)) rfl ⟨Nat.le_of_ble_eq_true rfl, rfl, Nat.le_of_ble_eq_true rfl⟩ (en239 _ _) (hu) (fun o9 ho9 => ?_)
  obtain ⟨y, h2, rfl, e6, e7, q2⟩ := ho9
  refine w_bok (pv239 _ _) ?_
  refine w_istore f312_971 (Nat.le_of_ble_eq_true rfl) (sto_9_6 rfl) ?_
  refine w_aloadn f312_973 rfl (by omega) ?_
  refine w_cV f312_974 (Or.inl rfl) rfl (by omega) (okd_of (by assumption)) rfl ⟨Nat.le_of_ble_eq_true rfl, rfl, Nat.le_of_ble_eq_true rfl⟩ (en147 _) (s147) (pv147 _ _) ?_
  rw [e6]
  refine w_iload f312_977 rfl ?_
  refine w_ic_eq (t := 984) f312_979 (by decide) (fun c1 => ?_) (fun c1 => absurd rfl c1)
  refine w_iload f312_984 rfl ?_
  refine w_if_ne (t := 1001) f312_986 (by decide) (fun c2 => ?_) (fun c2 => ?_)
  · refine w_goto (t := 2499) f312_1001 (by decide) ?_
    exact g _ _ _ _ _ _ _ _ _ q2 ⟨hc, hs⟩
  · refine w_aloadn f312_989 rfl (by omega) ?_
    refine w_iconst (v := 0) f312_990 (by decide) ?_
    refine w_lald f312_991 (by assumption) (by omega) (by exact (e7 c2).1) ?_
    refine w_iload f312_992 rfl ?_
    refine w_i2l f312_994 ?_
    refine w_lcmp f312_995 ?_
    refine w_ifl_eq (t := 1001) f312_996 (by decide) (fun c3 => ?_) (fun c3 => absurd rfl c3)
    refine w_goto (t := 2499) f312_1001 (by decide) ?_
    exact g _ _ _ _ _ _ _ _ _ q2 ⟨hc, hs⟩
theorem law20 (q : Rel r d N h h) (hN : 1 ≤ N ∧ N < 1000000000) (hi : 0 ≤ i) (hL : i + 6 ≤ (L : Int)) (hm : L ≤ 1000000) (g : LawG N i c0 s0 L f Q) : Rn (ev 312 1004 [AS 0, AR 1, AR 268, AR 282, AI i, v5, v6, v7, v8] [] (KS r d, h, c0, s0, L, f)) Q := by
  have k1 := @kd_1 r d
  have k268 := @kd_268 r d
  have k282 := @kd_282 r d
  refine w_aloadn f312_1004 rfl (by omega) ?_
  refine w_aloadns f312_1005 rfl ?_
  refine w_iload f312_1006 rfl ?_
  refine w_iconst (v := 1) f312_1008 (by decide) ?_
  refine w_iaddn f312_1009 (by omega) ?_
  refine w_sald f312_1010 (by omega) rfl ?_
  refine w_aloadn f312_1011 rfl (by omega) ?_
  refine w_qS f312_1012 (Or.inl rfl) (Nat.le_of_ble_eq_true rfl) rfl rfl ⟨Nat.le_of_ble_eq_true rfl, rfl, Nat.le_of_ble_eq_true rfl⟩ (en293 _ _ _) (op20 q) (fun o9 ho9 => ?_)
  obtain ⟨x, h1, R1, rfl, hR, hu⟩ := ho9
  obtain ⟨c1, s1, rfl, hc, hs⟩ := hR.split
  refine w_bok (pv293 _ _) ?_
  refine w_istore f312_1015 (Nat.le_of_ble_eq_true rfl) (sto_9_5 rfl) ?_
  refine w_aloadn f312_1017 rfl (by omega) ?_
  refine w_aloadns f312_1018 rfl ?_
  refine w_iload f312_1019 rfl ?_
  refine w_iconst (v := 1) f312_1021 (by decide) ?_
  refine w_iaddn f312_1022 (by omega) ?_
  refine w_sald f312_1023 (by omega) rfl ?_
  refine w_qV f312_1024 (Or.inl rfl) rfl (by omega) (okd_of (by assumption)) rfl ⟨Nat.le_of_ble_eq_true rfl, rfl, Nat.le_of_ble_eq_true rfl⟩ (en243 _ _) (hu) (fun o9 ho9 => ?_)
  obtain ⟨y, h2, rfl, e6, e7, q2⟩ := ho9
  refine w_bok (pv243 _ _) ?_
  refine w_istore f312_1027 (Nat.le_of_ble_eq_true rfl) (sto_9_6 rfl) ?_
  refine w_aloadn f312_1029 rfl (by omega) ?_
  refine w_cV f312_1030 (Or.inl rfl) rfl (by omega) (okd_of (by assumption)) rfl ⟨Nat.le_of_ble_eq_true rfl, rfl, Nat.le_of_ble_eq_true rfl⟩ (en147 _) (s147) (pv147 _ _) ?_
  rw [e6]
  refine w_iload f312_1033 rfl ?_
  refine w_ic_eq (t := 1040) f312_1035 (by decide) (fun c1 => ?_) (fun c1 => absurd rfl c1)
  refine w_iload f312_1040 rfl ?_
  refine w_if_ne (t := 1064) f312_1042 (by decide) (fun c2 => ?_) (fun c2 => ?_)
  · refine w_goto (t := 2499) f312_1064 (by decide) ?_
    exact g _ _ _ _ _ _ _ _ _ q2 ⟨hc, hs⟩
  · refine w_aloadn f312_1045 rfl (by omega) ?_
    refine w_iconst (v := 0) f312_1046 (by decide) ?_
    refine w_lald f312_1047 (by assumption) (by omega) (by exact (e7 c2).1) ?_
    refine w_iload f312_1048 rfl ?_
    have ey : y = 0 ∨ y = 1 := (e7 c2).2
    refine w_if_eq (t := 1057) f312_1050 (by decide) (fun c3 => ?_) (fun c3 => ?_)
    · refine w_lconst (v := 0) f312_1057 rfl ?_
      refine w_lcmp f312_1058 ?_
      refine w_ifl_eq (t := 1064) f312_1059 (by decide) (fun c4 => ?_) (fun c4 => by omega)
      refine w_goto (t := 2499) f312_1064 (by decide) ?_
      exact g _ _ _ _ _ _ _ _ _ q2 ⟨hc, hs⟩
    · refine w_lconst (v := 1) f312_1053 rfl ?_
      refine w_goto (t := 1058) f312_1054 (by decide) ?_
      refine w_lcmp f312_1058 ?_
      refine w_ifl_eq (t := 1064) f312_1059 (by decide) (fun c5 => ?_) (fun c5 => by omega)
      refine w_goto (t := 2499) f312_1064 (by decide) ?_
      exact g _ _ _ _ _ _ _ _ _ q2 ⟨hc, hs⟩
theorem law21 (q : Rel r d N h h) (hN : 1 ≤ N ∧ N < 1000000000) (hi : 0 ≤ i) (hL : i + 6 ≤ (L : Int)) (hm : L ≤ 1000000) (g : LawG N i c0 s0 L f Q) : Rn (ev 312 1067 [AS 0, AR 1, AR 268, AR 282, AI i, v5, v6, v7, v8] [] (KS r d, h, c0, s0, L, f)) Q := by
  have k1 := @kd_1 r d
  have k268 := @kd_268 r d
  have k282 := @kd_282 r d
  refine w_aloadn f312_1067 rfl (by omega) ?_
  refine w_aloadns f312_1068 rfl ?_
  refine w_iload f312_1069 rfl ?_
  refine w_iconst (v := 1) f312_1071 (by decide) ?_
  refine w_iaddn f312_1072 (by omega) ?_
  refine w_sald f312_1073 (by omega) rfl ?_
  refine w_aloadn f312_1074 rfl (by omega) ?_
  refine w_qS f312_1075 (Or.inl rfl) (Nat.le_of_ble_eq_true rfl) rfl rfl ⟨Nat.le_of_ble_eq_true rfl, rfl, Nat.le_of_ble_eq_true rfl⟩ (en294 _ _ _) (op21 q) (fun o9 ho9 => ?_)
  obtain ⟨x, h1, R1, rfl, hR, hu⟩ := ho9
  obtain ⟨c1, s1, rfl, hc, hs⟩ := hR.split
  refine w_bok (pv294 _ _) ?_
  refine w_istore f312_1078 (Nat.le_of_ble_eq_true rfl) (sto_9_5 rfl) ?_
  refine w_aloadn f312_1080 rfl (by omega) ?_
  refine w_aloadns f312_1081 rfl ?_
  refine w_iload f312_1082 rfl ?_
  refine w_iconst (v := 1) f312_1084 (by decide) ?_
  refine w_iaddn f312_1085 (by omega) ?_
  refine w_sald f312_1086 (by omega) rfl ?_
  refine w_qV f312_1087 (Or.inl rfl) rfl (by omega) (okd_of (by assumption)) rfl ⟨Nat.le_of_ble_eq_true rfl, rfl, Nat.le_of_ble_eq_true rfl⟩ (en244 _ _) (hu) (fun o9 ho9 => ?_)
  obtain ⟨y, h2, rfl, e6, e7, q2⟩ := ho9
  refine w_bok (pv244 _ _) ?_
  refine w_istore f312_1090 (Nat.le_of_ble_eq_true rfl) (sto_9_6 rfl) ?_
  refine w_aloadn f312_1092 rfl (by omega) ?_
  refine w_cV f312_1093 (Or.inl rfl) rfl (by omega) (okd_of (by assumption)) rfl ⟨Nat.le_of_ble_eq_true rfl, rfl, Nat.le_of_ble_eq_true rfl⟩ (en147 _) (s147) (pv147 _ _) ?_
  rw [e6]
  refine w_iload f312_1096 rfl ?_
  refine w_ic_eq (t := 1103) f312_1098 (by decide) (fun c1 => ?_) (fun c1 => absurd rfl c1)
  refine w_iload f312_1103 rfl ?_
  refine w_if_ne (t := 1127) f312_1105 (by decide) (fun c2 => ?_) (fun c2 => ?_)
  · refine w_goto (t := 2499) f312_1127 (by decide) ?_
    exact g _ _ _ _ _ _ _ _ _ q2 ⟨hc, hs⟩
  · refine w_aloadn f312_1108 rfl (by omega) ?_
    refine w_iconst (v := 0) f312_1109 (by decide) ?_
    refine w_lald f312_1110 (by assumption) (by omega) (by exact (e7 c2).1) ?_
    refine w_iload f312_1111 rfl ?_
    have ey : y = 0 ∨ y = 1 := (e7 c2).2
    refine w_if_eq (t := 1120) f312_1113 (by decide) (fun c3 => ?_) (fun c3 => ?_)
    · refine w_lconst (v := 0) f312_1120 rfl ?_
      refine w_lcmp f312_1121 ?_
      refine w_ifl_eq (t := 1127) f312_1122 (by decide) (fun c4 => ?_) (fun c4 => by omega)
      refine w_goto (t := 2499) f312_1127 (by decide) ?_
      exact g _ _ _ _ _ _ _ _ _ q2 ⟨hc, hs⟩
    · refine w_lconst (v := 1) f312_1116 rfl ?_
      refine w_goto (t := 1121) f312_1117 (by decide) ?_
      refine w_lcmp f312_1121 ?_
      refine w_ifl_eq (t := 1127) f312_1122 (by decide) (fun c5 => ?_) (fun c5 => by omega)
      refine w_goto (t := 2499) f312_1127 (by decide) ?_
      exact g _ _ _ _ _ _ _ _ _ q2 ⟨hc, hs⟩
theorem law22 (q : Rel r d N h h) (hN : 1 ≤ N ∧ N < 1000000000) (hi : 0 ≤ i) (hL : i + 6 ≤ (L : Int)) (hm : L ≤ 1000000) (g : LawG N i c0 s0 L f Q) : Rn (ev 312 1130 [AS 0, AR 1, AR 268, AR 282, AI i, v5, v6, v7, v8] [] (KS r d, h, c0, s0, L, f)) Q := by
  have k1 := @kd_1 r d
  have k268 := @kd_268 r d
  have k282 := @kd_282 r d
  refine w_aloadn f312_1130 rfl (by omega) ?_
  refine w_aloadns f312_1131 rfl ?_
  refine w_iload f312_1132 rfl ?_
  refine w_iconst (v := 1) f312_1134 (by decide) ?_
  refine w_iaddn f312_1135 (by omega) ?_
  refine w_sald f312_1136 (by omega) rfl ?_
  refine w_aloadn f312_1137 rfl (by omega) ?_
  refine w_qS f312_1138 (Or.inl rfl) (Nat.le_of_ble_eq_true rfl) rfl rfl ⟨Nat.le_of_ble_eq_true rfl, rfl, Nat.le_of_ble_eq_true rfl⟩ (en295 _ _ _) (op22 q) (fun o9 ho9 => ?_)
  obtain ⟨x, h1, R1, rfl, hR, hu⟩ := ho9
  obtain ⟨c1, s1, rfl, hc, hs⟩ := hR.split
  refine w_bok (pv295 _ _) ?_
  refine w_istore f312_1141 (Nat.le_of_ble_eq_true rfl) (sto_9_5 rfl) ?_
  refine w_aloadn f312_1143 rfl (by omega) ?_
  refine w_aloadns f312_1144 rfl ?_
  refine w_iload f312_1145 rfl ?_
  refine w_iconst (v := 1) f312_1147 (by decide) ?_
  refine w_iaddn f312_1148 (by omega) ?_
  refine w_sald f312_1149 (by omega) rfl ?_
  refine w_qV f312_1150 (Or.inl rfl) rfl (by omega) (okd_of (by assumption)) rfl ⟨Nat.le_of_ble_eq_true rfl, rfl, Nat.le_of_ble_eq_true rfl⟩ (en245 _ _) (hu) (fun o9 ho9 => ?_)
  obtain ⟨y, h2, rfl, e6, e7, q2⟩ := ho9
  refine w_bok (pv245 _ _) ?_
  refine w_istore f312_1153 (Nat.le_of_ble_eq_true rfl) (sto_9_6 rfl) ?_
  refine w_aloadn f312_1155 rfl (by omega) ?_
  refine w_cV f312_1156 (Or.inl rfl) rfl (by omega) (okd_of (by assumption)) rfl ⟨Nat.le_of_ble_eq_true rfl, rfl, Nat.le_of_ble_eq_true rfl⟩ (en147 _) (s147) (pv147 _ _) ?_
  rw [e6]
  refine w_iload f312_1159 rfl ?_
  refine w_ic_eq (t := 1166) f312_1161 (by decide) (fun c1 => ?_) (fun c1 => absurd rfl c1)
  refine w_iload f312_1166 rfl ?_
  refine w_if_ne (t := 1183) f312_1168 (by decide) (fun c2 => ?_) (fun c2 => ?_)
  · refine w_goto (t := 2499) f312_1183 (by decide) ?_
    exact g _ _ _ _ _ _ _ _ _ q2 ⟨hc, hs⟩
  · refine w_aloadn f312_1171 rfl (by omega) ?_
    refine w_iconst (v := 0) f312_1172 (by decide) ?_
    refine w_lald f312_1173 (by assumption) (by omega) (by exact (e7 c2).1) ?_
    refine w_iload f312_1174 rfl ?_
    refine w_i2l f312_1176 ?_
    refine w_lcmp f312_1177 ?_
    refine w_ifl_eq (t := 1183) f312_1178 (by decide) (fun c3 => ?_) (fun c3 => absurd rfl c3)
    refine w_goto (t := 2499) f312_1183 (by decide) ?_
    exact g _ _ _ _ _ _ _ _ _ q2 ⟨hc, hs⟩
theorem law23 (q : Rel r d N h h) (hN : 1 ≤ N ∧ N < 1000000000) (hi : 0 ≤ i) (hL : i + 6 ≤ (L : Int)) (hm : L ≤ 1000000) (g : LawG N i c0 s0 L f Q) : Rn (ev 312 1186 [AS 0, AR 1, AR 268, AR 282, AI i, v5, v6, v7, v8] [] (KS r d, h, c0, s0, L, f)) Q := by
  have k1 := @kd_1 r d
  have k268 := @kd_268 r d
  have k282 := @kd_282 r d
  refine w_aloadn f312_1186 rfl (by omega) ?_
  refine w_aloadns f312_1187 rfl ?_
  refine w_iload f312_1188 rfl ?_
  refine w_iconst (v := 1) f312_1190 (by decide) ?_
  refine w_iaddn f312_1191 (by omega) ?_
  refine w_sald f312_1192 (by omega) rfl ?_
  refine w_aloadn f312_1193 rfl (by omega) ?_
  refine w_qS f312_1194 (Or.inl rfl) (Nat.le_of_ble_eq_true rfl) rfl rfl ⟨Nat.le_of_ble_eq_true rfl, rfl, Nat.le_of_ble_eq_true rfl⟩ (en296 _ _ _) (op23 q) (fun o9 ho9 => ?_)
  obtain ⟨x, h1, R1, rfl, hR, hu⟩ := ho9
  obtain ⟨c1, s1, rfl, hc, hs⟩ := hR.split
  refine w_bok (pv296 _ _) ?_
  refine w_istore f312_1197 (Nat.le_of_ble_eq_true rfl) (sto_9_5 rfl) ?_
  refine w_aloadn f312_1199 rfl (by omega) ?_
  refine w_aloadns f312_1200 rfl ?_
  refine w_iload f312_1201 rfl ?_
  refine w_iconst (v := 1) f312_1203 (by decide) ?_
  refine w_iaddn f312_1204 (by omega) ?_
  refine w_sald f312_1205 (by omega) rfl ?_
  refine w_qV f312_1206 (Or.inl rfl) rfl (by omega) (okd_of (by assumption)) rfl ⟨Nat.le_of_ble_eq_true rfl, rfl, Nat.le_of_ble_eq_true rfl⟩ (en246 _ _) (hu) (fun o9 ho9 => ?_)
  obtain ⟨y, h2, rfl, e6, e7, q2⟩ := ho9
  refine w_bok (pv246 _ _) ?_
  refine w_istore f312_1209 (Nat.le_of_ble_eq_true rfl) (sto_9_6 rfl) ?_
  refine w_aloadn f312_1211 rfl (by omega) ?_
  refine w_cV f312_1212 (Or.inl rfl) rfl (by omega) (okd_of (by assumption)) rfl ⟨Nat.le_of_ble_eq_true rfl, rfl, Nat.le_of_ble_eq_true rfl⟩ (en147 _) (s147) (pv147 _ _) ?_
  rw [e6]
  refine w_iload f312_1215 rfl ?_
  refine w_ic_eq (t := 1222) f312_1217 (by decide) (fun c1 => ?_) (fun c1 => absurd rfl c1)
  refine w_iload f312_1222 rfl ?_
  refine w_if_ne (t := 1246) f312_1224 (by decide) (fun c2 => ?_) (fun c2 => ?_)
  · refine w_goto (t := 2499) f312_1246 (by decide) ?_
    exact g _ _ _ _ _ _ _ _ _ q2 ⟨hc, hs⟩
  · refine w_aloadn f312_1227 rfl (by omega) ?_
    refine w_iconst (v := 0) f312_1228 (by decide) ?_
    refine w_lald f312_1229 (by assumption) (by omega) (by exact (e7 c2).1) ?_
    refine w_iload f312_1230 rfl ?_
    have ey : y = 0 ∨ y = 1 := (e7 c2).2
    refine w_if_eq (t := 1239) f312_1232 (by decide) (fun c3 => ?_) (fun c3 => ?_)
    · refine w_lconst (v := 0) f312_1239 rfl ?_
      refine w_lcmp f312_1240 ?_
      refine w_ifl_eq (t := 1246) f312_1241 (by decide) (fun c4 => ?_) (fun c4 => by omega)
      refine w_goto (t := 2499) f312_1246 (by decide) ?_
      exact g _ _ _ _ _ _ _ _ _ q2 ⟨hc, hs⟩
    · refine w_lconst (v := 1) f312_1235 rfl ?_
      refine w_goto (t := 1240) f312_1236 (by decide) ?_
      refine w_lcmp f312_1240 ?_
      refine w_ifl_eq (t := 1246) f312_1241 (by decide) (fun c5 => ?_) (fun c5 => by omega)
      refine w_goto (t := 2499) f312_1246 (by decide) ?_
      exact g _ _ _ _ _ _ _ _ _ q2 ⟨hc, hs⟩
theorem law24 (q : Rel r d N h h) (hN : 1 ≤ N ∧ N < 1000000000) (hi : 0 ≤ i) (hL : i + 6 ≤ (L : Int)) (hm : L ≤ 1000000) (g : LawG N i c0 s0 L f Q) : Rn (ev 312 1249 [AS 0, AR 1, AR 268, AR 282, AI i, v5, v6, v7, v8] [] (KS r d, h, c0, s0, L, f)) Q := by
  have k1 := @kd_1 r d
  have k268 := @kd_268 r d
  have k282 := @kd_282 r d
  refine w_aloadn f312_1249 rfl (by omega) ?_
  refine w_aloadns f312_1250 rfl ?_
  refine w_iload f312_1251 rfl ?_
  refine w_iconst (v := 1) f312_1253 (by decide) ?_
  refine w_iaddn f312_1254 (by omega) ?_
  refine w_sald f312_1255 (by omega) rfl ?_
  refine w_aloadn f312_1256 rfl (by omega) ?_
  refine w_qS f312_1257 (Or.inl rfl) (Nat.le_of_ble_eq_true rfl) rfl rfl ⟨Nat.le_of_ble_eq_true rfl, rfl, Nat.le_of_ble_eq_true rfl⟩ (en297 _ _ _) (op24 q) (fun o9 ho9 => ?_)
  obtain ⟨x, h1, R1, rfl, hR, hu⟩ := ho9
  obtain ⟨c1, s1, rfl, hc, hs⟩ := hR.split
  refine w_bok (pv297 _ _) ?_
  refine w_istore f312_1260 (Nat.le_of_ble_eq_true rfl) (sto_9_5 rfl) ?_
  refine w_aloadn f312_1262 rfl (by omega) ?_
  refine w_aloadns f312_1263 rfl ?_
  refine w_iload f312_1264 rfl ?_
  refine w_iconst (v := 1) f312_1266 (by decide) ?_
  refine w_iaddn f312_1267 (by omega) ?_
  refine w_sald f312_1268 (by omega) rfl ?_
  refine w_qV f312_1269 (Or.inl rfl) rfl (by omega) (okd_of (by assumption)) rfl ⟨Nat.le_of_ble_eq_true rfl, rfl, Nat.le_of_ble_eq_true rfl⟩ (en247 _ _) (hu) (fun o9 ho9 => ?_)
  obtain ⟨y, h2, rfl, e6, e7, q2⟩ := ho9
  refine w_bok (pv247 _ _) ?_
  refine w_istore f312_1272 (Nat.le_of_ble_eq_true rfl) (sto_9_6 rfl) ?_
  refine w_aloadn f312_1274 rfl (by omega) ?_
  refine w_cV f312_1275 (Or.inl rfl) rfl (by omega) (okd_of (by assumption)) rfl ⟨Nat.le_of_ble_eq_true rfl, rfl, Nat.le_of_ble_eq_true rfl⟩ (en147 _) (s147) (pv147 _ _) ?_
  rw [e6]
  refine w_iload f312_1278 rfl ?_
  refine w_ic_eq (t := 1285) f312_1280 (by decide) (fun c1 => ?_) (fun c1 => absurd rfl c1)
  refine w_iload f312_1285 rfl ?_
  refine w_if_ne (t := 1302) f312_1287 (by decide) (fun c2 => ?_) (fun c2 => ?_)
  · refine w_goto (t := 2499) f312_1302 (by decide) ?_
    exact g _ _ _ _ _ _ _ _ _ q2 ⟨hc, hs⟩
  · refine w_aloadn f312_1290 rfl (by omega) ?_
    refine w_iconst (v := 0) f312_1291 (by decide) ?_
    refine w_lald f312_1292 (by assumption) (by omega) (by exact (e7 c2).1) ?_
    refine w_iload f312_1293 rfl ?_
    refine w_i2l f312_1295 ?_
    refine w_lcmp f312_1296 ?_
    refine w_ifl_eq (t := 1302) f312_1297 (by decide) (fun c3 => ?_) (fun c3 => absurd rfl c3)
    refine w_goto (t := 2499) f312_1302 (by decide) ?_
    exact g _ _ _ _ _ _ _ _ _ q2 ⟨hc, hs⟩
theorem law25 (q : Rel r d N h h) (hN : 1 ≤ N ∧ N < 1000000000) (hi : 0 ≤ i) (hL : i + 6 ≤ (L : Int)) (hm : L ≤ 1000000) (g : LawG N i c0 s0 L f Q) : Rn (ev 312 1305 [AS 0, AR 1, AR 268, AR 282, AI i, v5, v6, v7, v8] [] (KS r d, h, c0, s0, L, f)) Q := by
  have k1 := @kd_1 r d
  have k268 := @kd_268 r d
  have k282 := @kd_282 r d
  refine w_aloadn f312_1305 rfl (by omega) ?_
  refine w_aloadns f312_1306 rfl ?_
  refine w_iload f312_1307 rfl ?_
  refine w_iconst (v := 1) f312_1309 (by decide) ?_
  refine w_iaddn f312_1310 (by omega) ?_
  refine w_sald f312_1311 (by omega) rfl ?_
  refine w_aloadn f312_1312 rfl (by omega) ?_
  refine w_qS f312_1313 (Or.inl rfl) (Nat.le_of_ble_eq_true rfl) rfl rfl ⟨Nat.le_of_ble_eq_true rfl, rfl, Nat.le_of_ble_eq_true rfl⟩ (en298 _ _ _) (op25 q) (fun o9 ho9 => ?_)
  obtain ⟨x, h1, R1, rfl, hR, hu⟩ := ho9
  obtain ⟨c1, s1, rfl, hc, hs⟩ := hR.split
  refine w_bok (pv298 _ _) ?_
  refine w_istore f312_1316 (Nat.le_of_ble_eq_true rfl) (sto_9_5 rfl) ?_
  refine w_aloadn f312_1318 rfl (by omega) ?_
  refine w_aloadns f312_1319 rfl ?_
  refine w_iload f312_1320 rfl ?_
  refine w_iconst (v := 1) f312_1322 (by decide) ?_
  refine w_iaddn f312_1323 (by omega) ?_
  refine w_sald f312_1324 (by omega) rfl ?_
  refine w_qV f312_1325 (Or.inl rfl) rfl (by omega) (okd_of (by assumption)) rfl ⟨Nat.le_of_ble_eq_true rfl, rfl, Nat.le_of_ble_eq_true rfl⟩ (en248 _ _) (hu) (fun o9 ho9 => ?_)
  obtain ⟨y, h2, rfl, e6, e7, q2⟩ := ho9
  refine w_bok (pv248 _ _) ?_
  refine w_istore f312_1328 (Nat.le_of_ble_eq_true rfl) (sto_9_6 rfl) ?_
  refine w_aloadn f312_1330 rfl (by omega) ?_
  refine w_cV f312_1331 (Or.inl rfl) rfl (by omega) (okd_of (by assumption)) rfl ⟨Nat.le_of_ble_eq_true rfl, rfl, Nat.le_of_ble_eq_true rfl⟩ (en147 _) (s147) (pv147 _ _) ?_
  rw [e6]
  refine w_iload f312_1334 rfl ?_
  refine w_ic_eq (t := 1341) f312_1336 (by decide) (fun c1 => ?_) (fun c1 => absurd rfl c1)
  refine w_iload f312_1341 rfl ?_
  refine w_if_ne (t := 1358) f312_1343 (by decide) (fun c2 => ?_) (fun c2 => ?_)
  · refine w_goto (t := 2499) f312_1358 (by decide) ?_
    exact g _ _ _ _ _ _ _ _ _ q2 ⟨hc, hs⟩
  · refine w_aloadn f312_1346 rfl (by omega) ?_
    refine w_iconst (v := 0) f312_1347 (by decide) ?_
    refine w_lald f312_1348 (by assumption) (by omega) (by exact (e7 c2).1) ?_
    refine w_iload f312_1349 rfl ?_
    refine w_i2l f312_1351 ?_
    refine w_lcmp f312_1352 ?_
    refine w_ifl_eq (t := 1358) f312_1353 (by decide) (fun c3 => ?_) (fun c3 => absurd rfl c3)
    refine w_goto (t := 2499) f312_1358 (by decide) ?_
    exact g _ _ _ _ _ _ _ _ _ q2 ⟨hc, hs⟩
theorem law26 (q : Rel r d N h h) (hN : 1 ≤ N ∧ N < 1000000000) (hi : 0 ≤ i) (hL : i + 6 ≤ (L : Int)) (hm : L ≤ 1000000) (g : LawG N i c0 s0 L f Q) : Rn (ev 312 1361 [AS 0, AR 1, AR 268, AR 282, AI i, v5, v6, v7, v8] [] (KS r d, h, c0, s0, L, f)) Q := by
  have k1 := @kd_1 r d
  have k268 := @kd_268 r d
  have k282 := @kd_282 r d
  refine w_aloadn f312_1361 rfl (by omega) ?_
  refine w_aloadns f312_1362 rfl ?_
  refine w_iload f312_1363 rfl ?_
  refine w_iconst (v := 1) f312_1365 (by decide) ?_
  refine w_iaddn f312_1366 (by omega) ?_
  refine w_sald f312_1367 (by omega) rfl ?_
  refine w_aloadn f312_1368 rfl (by omega) ?_
  refine w_qS f312_1369 (Or.inl rfl) (Nat.le_of_ble_eq_true rfl) rfl rfl ⟨Nat.le_of_ble_eq_true rfl, rfl, Nat.le_of_ble_eq_true rfl⟩ (en299 _ _ _) (op26 q) (fun o9 ho9 => ?_)
  obtain ⟨x, h1, R1, rfl, hR, hu⟩ := ho9
  obtain ⟨c1, s1, rfl, hc, hs⟩ := hR.split
  refine w_bok (pv299 _ _) ?_
  refine w_istore f312_1372 (Nat.le_of_ble_eq_true rfl) (sto_9_5 rfl) ?_
  refine w_aloadn f312_1374 rfl (by omega) ?_
  refine w_aloadns f312_1375 rfl ?_
  refine w_iload f312_1376 rfl ?_
  refine w_iconst (v := 1) f312_1378 (by decide) ?_
  refine w_iaddn f312_1379 (by omega) ?_
  refine w_sald f312_1380 (by omega) rfl ?_
  refine w_qV f312_1381 (Or.inl rfl) rfl (by omega) (okd_of (by assumption)) rfl ⟨Nat.le_of_ble_eq_true rfl, rfl, Nat.le_of_ble_eq_true rfl⟩ (en249 _ _) (hu) (fun o9 ho9 => ?_)
  obtain ⟨y, h2, rfl, e6, e7, q2⟩ := ho9
  refine w_bok (pv249 _ _) ?_
  refine w_istore f312_1384 (Nat.le_of_ble_eq_true rfl) (sto_9_6 rfl) ?_
  refine w_aloadn f312_1386 rfl (by omega) ?_
  refine w_cV f312_1387 (Or.inl rfl) rfl (by omega) (okd_of (by assumption)) rfl ⟨Nat.le_of_ble_eq_true rfl, rfl, Nat.le_of_ble_eq_true rfl⟩ (en147 _) (s147) (pv147 _ _) ?_
  rw [e6]
  refine w_iload f312_1390 rfl ?_
  refine w_ic_eq (t := 1397) f312_1392 (by decide) (fun c1 => ?_) (fun c1 => absurd rfl c1)
  refine w_iload f312_1397 rfl ?_
  refine w_if_ne (t := 1414) f312_1399 (by decide) (fun c2 => ?_) (fun c2 => ?_)
  · refine w_goto (t := 2499) f312_1414 (by decide) ?_
    exact g _ _ _ _ _ _ _ _ _ q2 ⟨hc, hs⟩
  · refine w_aloadn f312_1402 rfl (by omega) ?_
    refine w_iconst (v := 0) f312_1403 (by decide) ?_
    refine w_lald f312_1404 (by assumption) (by omega) (by exact (e7 c2).1) ?_
    refine w_iload f312_1405 rfl ?_
    refine w_i2l f312_1407 ?_
    refine w_lcmp f312_1408 ?_
    refine w_ifl_eq (t := 1414) f312_1409 (by decide) (fun c3 => ?_) (fun c3 => absurd rfl c3)
    refine w_goto (t := 2499) f312_1414 (by decide) ?_
    exact g _ _ _ _ _ _ _ _ _ q2 ⟨hc, hs⟩
theorem law27 (q : Rel r d N h h) (hN : 1 ≤ N ∧ N < 1000000000) (hi : 0 ≤ i) (hL : i + 6 ≤ (L : Int)) (hm : L ≤ 1000000) (g : LawG N i c0 s0 L f Q) : Rn (ev 312 1417 [AS 0, AR 1, AR 268, AR 282, AI i, v5, v6, v7, v8] [] (KS r d, h, c0, s0, L, f)) Q := by
  have k1 := @kd_1 r d
  have k268 := @kd_268 r d
  have k282 := @kd_282 r d
  refine w_aloadn f312_1417 rfl (by omega) ?_
  refine w_qV f312_1418 (Or.inl rfl) rfl (by omega) (okd_of (by assumption)) rfl ⟨Nat.le_of_ble_eq_true rfl, rfl, Nat.le_of_ble_eq_true rfl⟩ (en100 _) (op27 q) (fun o9 ho9 => ?_)
  obtain ⟨av, h1, r1, d1, rfl, ⟨v, rfl⟩, hu⟩ := ho9
  have j1 := @kd_1 r1 d1
  have j268 := @kd_268 r1 d1
  refine w_bok (pv100 _ _) ?_
  refine w_aloadn f312_1421 rfl (by omega) ?_
  refine w_qV f312_1422 (Or.inl rfl) rfl (by omega) (okd_of (by assumption)) rfl ⟨Nat.le_of_ble_eq_true rfl, rfl, Nat.le_of_ble_eq_true rfl⟩ (en250 _) (hu) (fun o9 ho9 => ?_)
  obtain ⟨h2, rfl, q2⟩ := ho9
  refine w_bok (pv250 _ _) ?_
  refine w_ic_eq (t := 2499) f312_1425 (by decide) (fun c1 => ?_) (fun c1 => absurd rfl c1)
  exact g _ _ _ _ _ _ _ _ _ q2 ⟨by omega, by omega⟩
theorem law28 (q : Rel r d N h h) (hN : 1 ≤ N ∧ N < 1000000000) (hi : 0 ≤ i) (hL : i + 6 ≤ (L : Int)) (hm : L ≤ 1000000) (g : LawG N i c0 s0 L f Q) : Rn (ev 312 1430 [AS 0, AR 1, AR 268, AR 282, AI i, v5, v6, v7, v8] [] (KS r d, h, c0, s0, L, f)) Q := by
  have k1 := @kd_1 r d
  have k268 := @kd_268 r d
  have k282 := @kd_282 r d
  refine w_aloadn f312_1430 rfl (by omega) ?_
  refine w_aloadns f312_1431 rfl ?_
  refine w_iload f312_1432 rfl ?_
  refine w_iconst (v := 1) f312_1434 (by decide) ?_
  refine w_iaddn f312_1435 (by omega) ?_
  refine w_sald f312_1436 (by omega) rfl ?_
  refine w_aloadn f312_1437 rfl (by omega) ?_
  refine w_qS f312_1438 (Or.inl rfl) (Nat.le_of_ble_eq_true rfl) rfl rfl ⟨Nat.le_of_ble_eq_true rfl, rfl, Nat.le_of_ble_eq_true rfl⟩ (en300 _ _ _) (op28 q) (fun o9 ho9 => ?_)
  obtain ⟨x, h1, R1, rfl, hR, hu⟩ := ho9
  obtain ⟨c1, s1, rfl, hc, hs⟩ := hR.split
  refine w_bok (pv300 _ _) ?_
  refine w_istore f312_1441 (Nat.le_of_ble_eq_true rfl) (sto_9_5 rfl) ?_
  refine w_aloadn f312_1443 rfl (by omega) ?_
  refine w_aloadns f312_1444 rfl ?_
  refine w_iload f312_1445 rfl ?_
  refine w_iconst (v := 1) f312_1447 (by decide) ?_
  refine w_iaddn f312_1448 (by omega) ?_
  refine w_sald f312_1449 (by omega) rfl ?_
  refine w_qV f312_1450 (Or.inl rfl) rfl (by omega) (okd_of (by assumption)) rfl ⟨Nat.le_of_ble_eq_true rfl, rfl, Nat.le_of_ble_eq_true rfl⟩ (en240 _ _) (hu) (fun o9 ho9 => ?_)
  obtain ⟨y, h2, rfl, e6, e7, q2⟩ := ho9
  refine w_bok (pv240 _ _) ?_
  refine w_istore f312_1453 (Nat.le_of_ble_eq_true rfl) (sto_9_6 rfl) ?_
  refine w_aloadn f312_1455 rfl (by omega) ?_
  refine w_cV f312_1456 (Or.inl rfl) rfl (by omega) (okd_of (by assumption)) rfl ⟨Nat.le_of_ble_eq_true rfl, rfl, Nat.le_of_ble_eq_true rfl⟩ (en147 _) (s147) (pv147 _ _) ?_
  rw [e6]
  refine w_iload f312_1459 rfl ?_
  refine w_ic_eq (t := 1466) f312_1461 (by decide) (fun c1 => ?_) (fun c1 => absurd rfl c1)
  refine w_iload f312_1466 rfl ?_
  refine w_if_ne (t := 1483) f312_1468 (by decide) (fun c2 => ?_) (fun c2 => ?_)
  · refine w_goto (t := 2499) f312_1483 (by decide) ?_
    exact g _ _ _ _ _ _ _ _ _ q2 ⟨hc, hs⟩
  · refine w_aloadn f312_1471 rfl (by omega) ?_
    refine w_iconst (v := 0) f312_1472 (by decide) ?_
    refine w_lald f312_1473 (by assumption) (by omega) (by exact (e7 c2).1) ?_
    refine w_iload f312_1474 rfl ?_
    refine w_i2l f312_1476 ?_
    refine w_lcmp f312_1477 ?_
    refine w_ifl_eq (t := 1483) f312_1478 (by decide) (fun c3 => ?_) (fun c3 => absurd rfl c3)
    refine w_goto (t := 2499) f312_1483 (by decide) ?_
    exact g _ _ _ _ _ _ _ _ _ q2 ⟨hc, hs⟩
theorem law29 (q : Rel r d N h h) (hN : 1 ≤ N ∧ N < 1000000000) (hi : 0 ≤ i) (hL : i + 6 ≤ (L : Int)) (hm : L ≤ 1000000) (g : LawG N i c0 s0 L f Q) : Rn (ev 312 1486 [AS 0, AR 1, AR 268, AR 282, AI i, v5, v6, v7, v8] [] (KS r d, h, c0, s0, L, f)) Q := by
  have k1 := @kd_1 r d
  have k268 := @kd_268 r d
  have k282 := @kd_282 r d
  refine w_aloadn f312_1486 rfl (by omega) ?_
  refine w_aloadns f312_1487 rfl ?_
  refine w_iload f312_1488 rfl ?_
  refine w_iconst (v := 1) f312_1490 (by decide) ?_
  refine w_iaddn f312_1491 (by omega) ?_
  refine w_sald f312_1492 (by omega) rfl ?_
  refine w_aloadn f312_1493 rfl (by omega) ?_
  refine w_qS f312_1494 (Or.inl rfl) (Nat.le_of_ble_eq_true rfl) rfl rfl ⟨Nat.le_of_ble_eq_true rfl, rfl, Nat.le_of_ble_eq_true rfl⟩ (en301 _ _ _) (op29 q) (fun o9 ho9 => ?_)
  obtain ⟨x, h1, R1, rfl, hR, hu⟩ := ho9
  obtain ⟨c1, s1, rfl, hc, hs⟩ := hR.split
  refine w_bok (pv301 _ _) ?_
  refine w_istore f312_1497 (Nat.le_of_ble_eq_true rfl) (sto_9_5 rfl) ?_
  refine w_aloadn f312_1499 rfl (by omega) ?_
  refine w_aloadns f312_1500 rfl ?_
  refine w_iload f312_1501 rfl ?_
  refine w_iconst (v := 1) f312_1503 (by decide) ?_
  refine w_iaddn f312_1504 (by omega) ?_
  refine w_sald f312_1505 (by omega) rfl ?_
  refine w_qV f312_1506 (Or.inl rfl) rfl (by omega) (okd_of (by assumption)) rfl ⟨Nat.le_of_ble_eq_true rfl, rfl, Nat.le_of_ble_eq_true rfl⟩ (en251 _ _) (hu) (fun o9 ho9 => ?_)
  obtain ⟨y, h2, rfl, e6, e7, q2⟩ := ho9
  refine w_bok (pv251 _ _) ?_
  refine w_istore f312_1509 (Nat.le_of_ble_eq_true rfl) (sto_9_6 rfl) ?_
  refine w_aloadn f312_1511 rfl (by omega) ?_
  refine w_cV f312_1512 (Or.inl rfl) rfl (by omega) (okd_of (by assumption)) rfl ⟨Nat.le_of_ble_eq_true rfl, rfl, Nat.le_of_ble_eq_true rfl⟩ (en147 _) (s147) (pv147 _ _) ?_
  rw [e6]
  refine w_iload f312_1515 rfl ?_
  refine w_ic_eq (t := 1522) f312_1517 (by decide) (fun c1 => ?_) (fun c1 => absurd rfl c1)
  refine w_iload f312_1522 rfl ?_
  refine w_if_ne (t := 1539) f312_1524 (by decide) (fun c2 => ?_) (fun c2 => ?_)
  · refine w_goto (t := 2499) f312_1539 (by decide) ?_
    exact g _ _ _ _ _ _ _ _ _ q2 ⟨hc, hs⟩
  · refine w_aloadn f312_1527 rfl (by omega) ?_
    refine w_iconst (v := 0) f312_1528 (by decide) ?_
    refine w_lald f312_1529 (by assumption) (by omega) (by exact (e7 c2).1) ?_
    refine w_iload f312_1530 rfl ?_
    refine w_i2l f312_1532 ?_
    refine w_lcmp f312_1533 ?_
    refine w_ifl_eq (t := 1539) f312_1534 (by decide) (fun c3 => ?_) (fun c3 => absurd rfl c3)
    refine w_goto (t := 2499) f312_1539 (by decide) ?_
    exact g _ _ _ _ _ _ _ _ _ q2 ⟨hc, hs⟩
theorem law30 (q : Rel r d N h h) (hN : 1 ≤ N ∧ N < 1000000000) (hi : 0 ≤ i) (hL : i + 6 ≤ (L : Int)) (hm : L ≤ 1000000) (g : LawG N i c0 s0 L f Q) : Rn (ev 312 1542 [AS 0, AR 1, AR 268, AR 282, AI i, v5, v6, v7, v8] [] (KS r d, h, c0, s0, L, f)) Q := by
  have k1 := @kd_1 r d
  have k268 := @kd_268 r d
  have k282 := @kd_282 r d
  refine w_aloadn f312_1542 rfl (by omega) ?_
  refine w_qV f312_1543 (Or.inl rfl) rfl (by omega) (okd_of (by assumption)) rfl ⟨Nat.le_of_ble_eq_true rfl, rfl, Nat.le_of_ble_eq_true rfl⟩ (en103 _) (op30 q) (fun o9 ho9 => ?_)
  obtain ⟨av, h1, r1, d1, rfl, ⟨v, rfl⟩, hu⟩ := ho9
  have j1 := @kd_1 r1 d1
  have j268 := @kd_268 r1 d1
  refine w_bok (pv103 _ _) ?_
  refine w_aloadn f312_1546 rfl (by omega) ?_
  refine w_qV f312_1547 (Or.inl rfl) rfl (by omega) (okd_of (by assumption)) rfl ⟨Nat.le_of_ble_eq_true rfl, rfl, Nat.le_of_ble_eq_true rfl⟩ (en229 _) (hu) (fun o9 ho9 => ?_)
  obtain ⟨h2, rfl, q2⟩ := ho9
  refine w_bok (pv229 _ _) ?_
  refine w_ic_eq (t := 2499) f312_1550 (by decide) (fun c1 => ?_) (fun c1 => absurd rfl c1)
  exact g _ _ _ _ _ _ _ _ _ q2 ⟨by omega, by omega⟩
theorem law31 (q : Rel r d N h h) (hN : 1 ≤ N ∧ N < 1000000000) (hi : 0 ≤ i) (hL : i + 6 ≤ (L : Int)) (hm : L ≤ 1000000) (g : LawG N i c0 s0 L f Q) : Rn (ev 312 1555 [AS 0, AR 1, AR 268, AR 282, AI i, v5, v6, v7, v8] [] (KS r d, h, c0, s0, L, f)) Q := by
  have k1 := @kd_1 r d
  have k268 := @kd_268 r d
  have k282 := @kd_282 r d
  refine w_aloadn f312_1555 rfl (by omega) ?_
  refine w_qV f312_1556 (Or.inl rfl) rfl (by omega) (okd_of (by assumption)) rfl ⟨Nat.le_of_ble_eq_true rfl, rfl, Nat.le_of_ble_eq_true rfl⟩ (en104 _) (op31 q) (fun o9 ho9 => ?_)
  obtain ⟨av, h1, r1, d1, rfl, ⟨v, rfl⟩, hu⟩ := ho9
  have j1 := @kd_1 r1 d1
  have j268 := @kd_268 r1 d1
  refine w_bok (pv104 _ _) ?_
  refine w_aloadn f312_1559 rfl (by omega) ?_
  refine w_qV f312_1560 (Or.inl rfl) rfl (by omega) (okd_of (by assumption)) rfl ⟨Nat.le_of_ble_eq_true rfl, rfl, Nat.le_of_ble_eq_true rfl⟩ (en230 _) (hu) (fun o9 ho9 => ?_)
  obtain ⟨h2, rfl, q2⟩ := ho9
  refine w_bok (pv230 _ _) ?_
  refine w_ic_eq (t := 2499) f312_1563 (by decide) (fun c1 => ?_) (fun c1 => absurd rfl c1)
  exact g _ _ _ _ _ _ _ _ _ q2 ⟨by omega, by omega⟩
theorem law32 (q : Rel r d N h h) (hN : 1 ≤ N ∧ N < 1000000000) (hi : 0 ≤ i) (hL : i + 6 ≤ (L : Int)) (hm : L ≤ 1000000) (g : LawG N i c0 s0 L f Q) : Rn (ev 312 1568 [AS 0, AR 1, AR 268, AR 282, AI i, v5, v6, v7, v8] [] (KS r d, h, c0, s0, L, f)) Q := by
  have k1 := @kd_1 r d
  have k268 := @kd_268 r d
  have k282 := @kd_282 r d
  refine w_aloadn f312_1568 rfl (by omega) ?_
  refine w_aloadns f312_1569 rfl ?_
  refine w_iload f312_1570 rfl ?_
  refine w_iconst (v := 1) f312_1572 (by decide) ?_
  refine w_iaddn f312_1573 (by omega) ?_
  refine w_sald f312_1574 (by omega) rfl ?_
  refine w_aloadn f312_1575 rfl (by omega) ?_
  refine w_qS f312_1576 (Or.inl rfl) (Nat.le_of_ble_eq_true rfl) rfl rfl ⟨Nat.le_of_ble_eq_true rfl, rfl, Nat.le_of_ble_eq_true rfl⟩ (en302 _ _ _) (op32 q) (fun o9 ho9 => ?_)
  obtain ⟨x, h1, R1, rfl, hR, hu⟩ := ho9
  obtain ⟨c1, s1, rfl, hc, hs⟩ := hR.split
  refine w_bok (pv302 _ _) ?_
  refine w_istore f312_1579 (Nat.le_of_ble_eq_true rfl) (sto_9_5 rfl) ?_
  refine w_aloadn f312_1581 rfl (by omega) ?_
  refine w_aloadns f312_1582 rfl ?_
  refine w_iload f312_1583 rfl ?_
  refine w_iconst (v := 1) f312_1585 (by decide) ?_
  refine w_iaddn f312_1586 (by omega) ?_
  refine w_sald f312_1587 (by omega) rfl ?_
  refine w_qV f312_1588 (Or.inl rfl) rfl (by omega) (okd_of (by assumption)) rfl ⟨Nat.le_of_ble_eq_true rfl, rfl, Nat.le_of_ble_eq_true rfl⟩ (en252 _ _) (hu) (fun o9 ho9 => ?_)
  obtain ⟨y, h2, rfl, e6, e7, q2⟩ := ho9
  refine w_bok (pv252 _ _) ?_
  refine w_istore f312_1591 (Nat.le_of_ble_eq_true rfl) (sto_9_6 rfl) ?_
  refine w_aloadn f312_1593 rfl (by omega) ?_
  refine w_cV f312_1594 (Or.inl rfl) rfl (by omega) (okd_of (by assumption)) rfl ⟨Nat.le_of_ble_eq_true rfl, rfl, Nat.le_of_ble_eq_true rfl⟩ (en147 _) (s147) (pv147 _ _) ?_
  rw [e6]
  refine w_iload f312_1597 rfl ?_
  refine w_ic_eq (t := 1604) f312_1599 (by decide) (fun c1 => ?_) (fun c1 => absurd rfl c1)
  refine w_iload f312_1604 rfl ?_
  refine w_if_ne (t := 1621) f312_1606 (by decide) (fun c2 => ?_) (fun c2 => ?_)
  · refine w_goto (t := 2499) f312_1621 (by decide) ?_
    exact g _ _ _ _ _ _ _ _ _ q2 ⟨hc, hs⟩
  · refine w_aloadn f312_1609 rfl (by omega) ?_
    refine w_iconst (v := 0) f312_1610 (by decide) ?_
    refine w_lald f312_1611 (by assumption) (by omega) (by exact (e7 c2).1) ?_
    refine w_iload f312_1612 rfl ?_
    refine w_i2l f312_1614 ?_
    refine w_lcmp f312_1615 ?_
    refine w_ifl_eq (t := 1621) f312_1616 (by decide) (fun c3 => ?_) (fun c3 => absurd rfl c3)
    refine w_goto (t := 2499) f312_1621 (by decide) ?_
    exact g _ _ _ _ _ _ _ _ _ q2 ⟨hc, hs⟩
theorem law33 (q : Rel r d N h h) (hN : 1 ≤ N ∧ N < 1000000000) (hi : 0 ≤ i) (hL : i + 6 ≤ (L : Int)) (hm : L ≤ 1000000) (g : LawG N i c0 s0 L f Q) : Rn (ev 312 1624 [AS 0, AR 1, AR 268, AR 282, AI i, v5, v6, v7, v8] [] (KS r d, h, c0, s0, L, f)) Q := by
  have k1 := @kd_1 r d
  have k268 := @kd_268 r d
  have k282 := @kd_282 r d
  refine w_aloadn f312_1624 rfl (by omega) ?_
  refine w_qV f312_1625 (Or.inl rfl) rfl (by omega) (okd_of (by assumption)) rfl ⟨Nat.le_of_ble_eq_true rfl, rfl, Nat.le_of_ble_eq_true rfl⟩ (en106 _) (op33 q) (fun o9 ho9 => ?_)
  obtain ⟨av, h1, r1, d1, rfl, ⟨v, rfl, hv⟩, hu⟩ := ho9
  have j1 := @kd_1 r1 d1
  have j268 := @kd_268 r1 d1
  refine w_bok (pv106 _ _) ?_
  refine w_f2d f312_1628 (by exact hv) ?_
  refine w_dstore f312_1629 (Nat.le_of_ble_eq_true rfl) (sto2_9_5 rfl) ?_
  refine w_aloadn f312_1631 rfl (by omega) ?_
  refine w_qV f312_1632 (Or.inl rfl) rfl (by omega) (okd_of (by assumption)) rfl ⟨Nat.le_of_ble_eq_true rfl, rfl, Nat.le_of_ble_eq_true rfl⟩ (en255 _) (hu) (fun o9 ho9 => ?_)
  obtain ⟨h2, rfl, q2⟩ := ho9
  refine w_bok (pv255 _ _) ?_
  refine w_f2d f312_1635 (by exact hv) ?_
  refine w_dstore f312_1636 (Nat.le_of_ble_eq_true rfl) (sto2_9_7 rfl) ?_
  refine w_dload f312_1638 rfl ?_
  refine w_dload f312_1640 rfl ?_
  refine w_dcmp f312_1642 ?_
  refine w_if_eq (t := 1664) f312_1643 (by decide) (fun c1 => ?_) (fun c1 => ?_)
  · refine w_goto (t := 2499) f312_1664 (by decide) ?_
    exact g _ _ _ _ _ _ _ _ _ q2 ⟨by omega, by omega⟩
  · refine w_dload f312_1646 rfl ?_
    refine w_dload f312_1648 rfl ?_
    refine w_dcmp f312_1650 ?_
    refine w_if_eq (t := 1662) f312_1651 (by decide) (fun c2 => absurd c2 c1) (fun c2 => ?_)
    refine w_dload f312_1654 rfl ?_
    refine w_dload f312_1656 rfl ?_
    refine w_dcmp f312_1658 ?_
    refine w_if_ne (t := 1664) f312_1659 (by decide) (fun c3 => ?_) (fun c3 => absurd c3 c1)
    refine w_goto (t := 2499) f312_1664 (by decide) ?_
    exact g _ _ _ _ _ _ _ _ _ q2 ⟨by omega, by omega⟩
theorem law34 (q : Rel r d N h h) (hN : 1 ≤ N ∧ N < 1000000000) (hi : 0 ≤ i) (hL : i + 6 ≤ (L : Int)) (hm : L ≤ 1000000) (g : LawG N i c0 s0 L f Q) : Rn (ev 312 1667 [AS 0, AR 1, AR 268, AR 282, AI i, v5, v6, v7, v8] [] (KS r d, h, c0, s0, L, f)) Q := by
  have k1 := @kd_1 r d
  have k268 := @kd_268 r d
  have k282 := @kd_282 r d
  refine w_aloadn f312_1667 rfl (by omega) ?_
  refine w_qV f312_1668 (Or.inl rfl) rfl (by omega) (okd_of (by assumption)) rfl ⟨Nat.le_of_ble_eq_true rfl, rfl, Nat.le_of_ble_eq_true rfl⟩ (en107 _) (op34 q) (fun o9 ho9 => ?_)
  obtain ⟨av, h1, r1, d1, rfl, ⟨v, rfl, hv⟩, hu⟩ := ho9
  have j1 := @kd_1 r1 d1
  have j268 := @kd_268 r1 d1
  refine w_bok (pv107 _ _) ?_
  refine w_f2d f312_1671 (by exact hv) ?_
  refine w_dstore f312_1672 (Nat.le_of_ble_eq_true rfl) (sto2_9_5 rfl) ?_
  refine w_aloadn f312_1674 rfl (by omega) ?_
  refine w_qV f312_1675 (Or.inl rfl) rfl (by omega) (okd_of (by assumption)) rfl ⟨Nat.le_of_ble_eq_true rfl, rfl, Nat.le_of_ble_eq_true rfl⟩ (en256 _) (hu) (fun o9 ho9 => ?_)
  obtain ⟨h2, rfl, q2⟩ := ho9
  refine w_bok (pv256 _ _) ?_
  refine w_f2d f312_1678 (by exact hv) ?_
  refine w_dstore f312_1679 (Nat.le_of_ble_eq_true rfl) (sto2_9_7 rfl) ?_
  refine w_dload f312_1681 rfl ?_
  refine w_dload f312_1683 rfl ?_
  refine w_dcmp f312_1685 ?_
  refine w_if_eq (t := 1707) f312_1686 (by decide) (fun c1 => ?_) (fun c1 => ?_)
  · refine w_goto (t := 2499) f312_1707 (by decide) ?_
    exact g _ _ _ _ _ _ _ _ _ q2 ⟨by omega, by omega⟩
  · refine w_dload f312_1689 rfl ?_
    refine w_dload f312_1691 rfl ?_
    refine w_dcmp f312_1693 ?_
    refine w_if_eq (t := 1705) f312_1694 (by decide) (fun c2 => absurd c2 c1) (fun c2 => ?_)
    refine w_dload f312_1697 rfl ?_
    refine w_dload f312_1699 rfl ?_
    refine w_dcmp f312_1701 ?_
    refine w_if_ne (t := 1707) f312_1702 (by decide) (fun c3 => ?_) (fun c3 => absurd c3 c1)
    refine w_goto (t := 2499) f312_1707 (by decide) ?_
    exact g _ _ _ _ _ _ _ _ _ q2 ⟨by omega, by omega⟩
theorem law35 (q : Rel r d N h h) (hN : 1 ≤ N ∧ N < 1000000000) (hi : 0 ≤ i) (hL : i + 6 ≤ (L : Int)) (hm : L ≤ 1000000) (g : LawG N i c0 s0 L f Q) : Rn (ev 312 1710 [AS 0, AR 1, AR 268, AR 282, AI i, v5, v6, v7, v8] [] (KS r d, h, c0, s0, L, f)) Q := by
  have k1 := @kd_1 r d
  have k268 := @kd_268 r d
  have k282 := @kd_282 r d
  refine w_aloadn f312_1710 rfl (by omega) ?_
  refine w_qV f312_1711 (Or.inl rfl) rfl (by omega) (okd_of (by assumption)) rfl ⟨Nat.le_of_ble_eq_true rfl, rfl, Nat.le_of_ble_eq_true rfl⟩ (en108 _) (op35 q) (fun o9 ho9 => ?_)
  obtain ⟨av, h1, r1, d1, rfl, ⟨v, rfl⟩, hu⟩ := ho9
  have j1 := @kd_1 r1 d1
  have j268 := @kd_268 r1 d1
  refine w_bok (pv108 _ _) ?_
  refine w_aloadn f312_1714 rfl (by omega) ?_
  refine w_qV f312_1715 (Or.inl rfl) rfl (by omega) (okd_of (by assumption)) rfl ⟨Nat.le_of_ble_eq_true rfl, rfl, Nat.le_of_ble_eq_true rfl⟩ (en257 _) (hu) (fun o9 ho9 => ?_)
  obtain ⟨h2, rfl, q2⟩ := ho9
  refine w_bok (pv257 _ _) ?_
  refine w_ic_eq (t := 2499) f312_1718 (by decide) (fun c1 => ?_) (fun c1 => absurd rfl c1)
  exact g _ _ _ _ _ _ _ _ _ q2 ⟨by omega, by omega⟩
theorem law36 (q : Rel r d N h h) (hN : 1 ≤ N ∧ N < 1000000000) (hi : 0 ≤ i) (hL : i + 6 ≤ (L : Int)) (hm : L ≤ 1000000) (g : LawG N i c0 s0 L f Q) : Rn (ev 312 1723 [AS 0, AR 1, AR 268, AR 282, AI i, v5, v6, v7, v8] [] (KS r d, h, c0, s0, L, f)) Q := by
  have k1 := @kd_1 r d
  have k268 := @kd_268 r d
  have k282 := @kd_282 r d
  refine w_aloadn f312_1723 rfl (by omega) ?_
  refine w_qV f312_1724 (Or.inl rfl) rfl (by omega) (okd_of (by assumption)) rfl ⟨Nat.le_of_ble_eq_true rfl, rfl, Nat.le_of_ble_eq_true rfl⟩ (en109 _) (op36 q) (fun o9 ho9 => ?_)
  obtain ⟨av, h1, r1, d1, rfl, ⟨v, rfl⟩, hu⟩ := ho9
  have j1 := @kd_1 r1 d1
  have j268 := @kd_268 r1 d1
  refine w_bok (pv109 _ _) ?_
  refine w_aloadn f312_1727 rfl (by omega) ?_
  refine w_qV f312_1728 (Or.inl rfl) rfl (by omega) (okd_of (by assumption)) rfl ⟨Nat.le_of_ble_eq_true rfl, rfl, Nat.le_of_ble_eq_true rfl⟩ (en258 _) (hu) (fun o9 ho9 => ?_)
  obtain ⟨h2, rfl, q2⟩ := ho9
  refine w_bok (pv258 _ _) ?_
  refine w_ic_eq (t := 2499) f312_1731 (by decide) (fun c1 => ?_) (fun c1 => absurd rfl c1)
  exact g _ _ _ _ _ _ _ _ _ q2 ⟨by omega, by omega⟩
theorem law37 (q : Rel r d N h h) (hN : 1 ≤ N ∧ N < 1000000000) (hi : 0 ≤ i) (hL : i + 6 ≤ (L : Int)) (hm : L ≤ 1000000) (g : LawG N i c0 s0 L f Q) : Rn (ev 312 1736 [AS 0, AR 1, AR 268, AR 282, AI i, v5, v6, v7, v8] [] (KS r d, h, c0, s0, L, f)) Q := by
  have k1 := @kd_1 r d
  have k268 := @kd_268 r d
  have k282 := @kd_282 r d
  refine w_aloadn f312_1736 rfl (by omega) ?_
  refine w_qV f312_1737 (Or.inl rfl) rfl (by omega) (okd_of (by assumption)) rfl ⟨Nat.le_of_ble_eq_true rfl, rfl, Nat.le_of_ble_eq_true rfl⟩ (en110 _) (op37 q) (fun o9 ho9 => ?_)
  obtain ⟨av, h1, r1, d1, rfl, ⟨v, rfl⟩, hu⟩ := ho9
  have j1 := @kd_1 r1 d1
  have j268 := @kd_268 r1 d1
  refine w_bok (pv110 _ _) ?_
  refine w_aloadn f312_1740 rfl (by omega) ?_
  refine w_qV f312_1741 (Or.inl rfl) rfl (by omega) (okd_of (by assumption)) rfl ⟨Nat.le_of_ble_eq_true rfl, rfl, Nat.le_of_ble_eq_true rfl⟩ (en231 _) (hu) (fun o9 ho9 => ?_)
  obtain ⟨h2, rfl, q2⟩ := ho9
  refine w_bok (pv231 _ _) ?_
  refine w_ic_eq (t := 2499) f312_1744 (by decide) (fun c1 => ?_) (fun c1 => absurd rfl c1)
  exact g _ _ _ _ _ _ _ _ _ q2 ⟨by omega, by omega⟩
theorem law38 (q : Rel r d N h h) (hN : 1 ≤ N ∧ N < 1000000000) (hi : 0 ≤ i) (hL : i + 6 ≤ (L : Int)) (hm : L ≤ 1000000) (g : LawG N i c0 s0 L f Q) : Rn (ev 312 1749 [AS 0, AR 1, AR 268, AR 282, AI i, v5, v6, v7, v8] [] (KS r d, h, c0, s0, L, f)) Q := by
  have k1 := @kd_1 r d
  have k268 := @kd_268 r d
  have k282 := @kd_282 r d
  refine w_aloadn f312_1749 rfl (by omega) ?_
  refine w_aloadns f312_1750 rfl ?_
  refine w_iload f312_1751 rfl ?_
  refine w_iconst (v := 1) f312_1753 (by decide) ?_
  refine w_iaddn f312_1754 (by omega) ?_
  refine w_sald f312_1755 (by omega) rfl ?_
  refine w_qV f312_1756 (Or.inl rfl) rfl (by omega) (okd_of (by assumption)) rfl ⟨Nat.le_of_ble_eq_true rfl, rfl, Nat.le_of_ble_eq_true rfl⟩ (en111 _ _) (op38 q) (fun o9 ho9 => ?_)
  obtain ⟨av, h1, r1, d1, rfl, ⟨v, rfl⟩, hu⟩ := ho9
  have j1 := @kd_1 r1 d1
  have j268 := @kd_268 r1 d1
  refine w_bok (pv111 _ _) ?_
  refine w_aloadn f312_1759 rfl (by omega) ?_
  refine w_aloadns f312_1760 rfl ?_
  refine w_iload f312_1761 rfl ?_
  refine w_iconst (v := 1) f312_1763 (by decide) ?_
  refine w_iaddn f312_1764 (by omega) ?_
  refine w_sald f312_1765 (by omega) rfl ?_
  refine w_qV f312_1766 (Or.inl rfl) rfl (by omega) (okd_of (by assumption)) rfl ⟨Nat.le_of_ble_eq_true rfl, rfl, Nat.le_of_ble_eq_true rfl⟩ (en259 _ _) (hu) (fun o9 ho9 => ?_)
  obtain ⟨h2, rfl, q2⟩ := ho9
  refine w_bok (pv259 _ _) ?_
  refine w_ic_eq (t := 2499) f312_1769 (by decide) (fun c1 => ?_) (fun c1 => absurd rfl c1)
  exact g _ _ _ _ _ _ _ _ _ q2 ⟨by omega, by omega⟩
theorem law39 (q : Rel r d N h h) (hN : 1 ≤ N ∧ N < 1000000000) (hi : 0 ≤ i) (hL : i + 6 ≤ (L : Int)) (hm : L ≤ 1000000) (g : LawG N i c0 s0 L f Q) : Rn (ev 312 1774 [AS 0, AR 1, AR 268, AR 282, AI i, v5, v6, v7, v8] [] (KS r d, h, c0, s0, L, f)) Q := by
  have k1 := @kd_1 r d
  have k268 := @kd_268 r d
  have k282 := @kd_282 r d
  refine w_aloadn f312_1774 rfl (by omega) ?_
  refine w_aloadns f312_1775 rfl ?_
  refine w_iload f312_1776 rfl ?_
  refine w_iconst (v := 1) f312_1778 (by decide) ?_
  refine w_iaddn f312_1779 (by omega) ?_
  refine w_sald f312_1780 (by omega) rfl ?_
  refine w_qV f312_1781 (Or.inl rfl) rfl (by omega) (okd_of (by assumption)) rfl ⟨Nat.le_of_ble_eq_true rfl, rfl, Nat.le_of_ble_eq_true rfl⟩ (en112 _ _) (op39 q) (fun o9 ho9 => ?_)
  obtain ⟨av, h1, r1, d1, rfl, ⟨v, rfl⟩, hu⟩ := ho9
  have j1 := @kd_1 r1 d1
  have j268 := @kd_268 r1 d1
  refine w_bok (pv112 _ _) ?_
  refine w_aloadn f312_1784 rfl (by omega) ?_
  refine w_aloadns f312_1785 rfl ?_
  refine w_iload f312_1786 rfl ?_
  refine w_iconst (v := 1) f312_1788 (by decide) ?_
  refine w_iaddn f312_1789 (by omega) ?_
  refine w_sald f312_1790 (by omega) rfl ?_
  refine w_qV f312_1791 (Or.inl rfl) rfl (by omega) (okd_of (by assumption)) rfl ⟨Nat.le_of_ble_eq_true rfl, rfl, Nat.le_of_ble_eq_true rfl⟩ (en260 _ _) (hu) (fun o9 ho9 => ?_)
  obtain ⟨h2, rfl, q2⟩ := ho9
  refine w_bok (pv260 _ _) ?_
  refine w_ic_eq (t := 2499) f312_1794 (by decide) (fun c1 => ?_) (fun c1 => absurd rfl c1)
  exact g _ _ _ _ _ _ _ _ _ q2 ⟨by omega, by omega⟩
theorem law40 (q : Rel r d N h h) (hN : 1 ≤ N ∧ N < 1000000000) (hi : 0 ≤ i) (hL : i + 6 ≤ (L : Int)) (hm : L ≤ 1000000) (g : LawG N i c0 s0 L f Q) : Rn (ev 312 1799 [AS 0, AR 1, AR 268, AR 282, AI i, v5, v6, v7, v8] [] (KS r d, h, c0, s0, L, f)) Q := by
  have k1 := @kd_1 r d
  have k268 := @kd_268 r d
  have k282 := @kd_282 r d
  refine w_aloadn f312_1799 rfl (by omega) ?_
  refine w_qV f312_1800 (Or.inl rfl) rfl (by omega) (okd_of (by assumption)) rfl ⟨Nat.le_of_ble_eq_true rfl, rfl, Nat.le_of_ble_eq_true rfl⟩ (en113 _) (op40 q) (fun o9 ho9 => ?_)
  obtain ⟨av, h1, r1, d1, rfl, ⟨v, rfl⟩, hu⟩ := ho9
  have j1 := @kd_1 r1 d1
  have j268 := @kd_268 r1 d1
  refine w_bok (pv113 _ _) ?_
  refine w_aloadn f312_1803 rfl (by omega) ?_
  refine w_qV f312_1804 (Or.inl rfl) rfl (by omega) (okd_of (by assumption)) rfl ⟨Nat.le_of_ble_eq_true rfl, rfl, Nat.le_of_ble_eq_true rfl⟩ (en261 _) (hu) (fun o9 ho9 => ?_)
  obtain ⟨h2, rfl, q2⟩ := ho9
  refine w_bok (pv261 _ _) ?_
  refine w_ic_eq (t := 2499) f312_1807 (by decide) (fun c1 => ?_) (fun c1 => absurd rfl c1)
  exact g _ _ _ _ _ _ _ _ _ q2 ⟨by omega, by omega⟩
theorem law41 (q : Rel r d N h h) (hN : 1 ≤ N ∧ N < 1000000000) (hi : 0 ≤ i) (hL : i + 6 ≤ (L : Int)) (hm : L ≤ 1000000) (g : LawG N i c0 s0 L f Q) : Rn (ev 312 1812 [AS 0, AR 1, AR 268, AR 282, AI i, v5, v6, v7, v8] [] (KS r d, h, c0, s0, L, f)) Q := by
  have k1 := @kd_1 r d
  have k268 := @kd_268 r d
  have k282 := @kd_282 r d
  refine w_aloadn f312_1812 rfl (by omega) ?_
  refine w_aloadns f312_1813 rfl ?_
  refine w_iload f312_1814 rfl ?_
  refine w_iconst (v := 1) f312_1816 (by decide) ?_
  refine w_iaddn f312_1817 (by omega) ?_
  refine w_sald f312_1818 (by omega) rfl ?_
  refine w_aloadn f312_1819 rfl (by omega) ?_
  refine w_qS f312_1820 (Or.inl rfl) (Nat.le_of_ble_eq_true rfl) rfl rfl ⟨Nat.le_of_ble_eq_true rfl, rfl, Nat.le_of_ble_eq_true rfl⟩ (en303 _ _ _) (op41 q) (fun o9 ho9 => ?_)
  obtain ⟨x, h1, R1, rfl, hR, hu⟩ := ho9
  obtain ⟨c1, s1, rfl, hc, hs⟩ := hR.split
  refine w_bok (pv303 _ _) ?_
  refine w_istore f312_1823 (Nat.le_of_ble_eq_true rfl) (sto_9_5 rfl) ?_
  refine w_aloadn f312_1825 rfl (by omega) ?_
  refine w_aloadns f312_1826 rfl ?_
  refine w_iload f312_1827 rfl ?_
  refine w_iconst (v := 1) f312_1829 (by decide) ?_
  refine w_iaddn f312_1830 (by omega) ?_
  refine w_sald f312_1831 (by omega) rfl ?_
  refine w_qV f312_1832 (Or.inl rfl) rfl (by omega) (okd_of (by assumption)) rfl ⟨Nat.le_of_ble_eq_true rfl, rfl, Nat.le_of_ble_eq_true rfl⟩ (en262 _ _) (hu) (fun o9 ho9 => ?_)
  obtain ⟨y, h2, rfl, e6, e7, q2⟩ := ho9
  refine w_bok (pv262 _ _) ?_
  refine w_istore f312_1835 (Nat.le_of_ble_eq_true rfl) (sto_9_6 rfl) ?_
  refine w_aloadn f312_1837 rfl (by omega) ?_
  refine w_cV f312_1838 (Or.inl rfl) rfl (by omega) (okd_of (by assumption)) rfl ⟨Nat.le_of_ble_eq_true rfl, rfl, Nat.le_of_ble_eq_true rfl⟩ (en147 _) (s147) (pv147 _ _) ?_
  rw [e6]
  refine w_iload f312_1841 rfl ?_
  refine w_ic_eq (t := 1848) f312_1843 (by decide) (fun c1 => ?_) (fun c1 => absurd rfl c1)
  refine w_iload f312_1848 rfl ?_
  refine w_if_ne (t := 1872) f312_1850 (by decide) (fun c2 => ?_) (fun c2 => ?_)
  · refine w_goto (t := 2499) f312_1872 (by decide) ?_
    exact g _ _ _ _ _ _ _ _ _ q2 ⟨hc, hs⟩
  · refine w_aloadn f312_1853 rfl (by omega) ?_
    refine w_iconst (v := 0) f312_1854 (by decide) ?_
    refine w_lald f312_1855 (by assumption) (by omega) (by exact (e7 c2).1) ?_
    refine w_iload f312_1856 rfl ?_
    have ey : y = 0 ∨ y = 1 := (e7 c2).2
    refine w_if_eq (t := 1865) f312_1858 (by decide) (fun c3 => ?_) (fun c3 => ?_)
    · refine w_lconst (v := 0) f312_1865 rfl ?_
      refine w_lcmp f312_1866 ?_
      refine w_ifl_eq (t := 1872) f312_1867 (by decide) (fun c4 => ?_) (fun c4 => by omega)
      refine w_goto (t := 2499) f312_1872 (by decide) ?_
      exact g _ _ _ _ _ _ _ _ _ q2 ⟨hc, hs⟩
    · refine w_lconst (v := 1) f312_1861 rfl ?_
      refine w_goto (t := 1866) f312_1862 (by decide) ?_
      refine w_lcmp f312_1866 ?_
      refine w_ifl_eq (t := 1872) f312_1867 (by decide) (fun c5 => ?_) (fun c5 => by omega)
      refine w_goto (t := 2499) f312_1872 (by decide) ?_
      exact g _ _ _ _ _ _ _ _ _ q2 ⟨hc, hs⟩
theorem law42 (q : Rel r d N h h) (hN : 1 ≤ N ∧ N < 1000000000) (hi : 0 ≤ i) (hL : i + 6 ≤ (L : Int)) (hm : L ≤ 1000000) (g : LawG N i c0 s0 L f Q) : Rn (ev 312 1875 [AS 0, AR 1, AR 268, AR 282, AI i, v5, v6, v7, v8] [] (KS r d, h, c0, s0, L, f)) Q := by
  have k1 := @kd_1 r d
  have k268 := @kd_268 r d
  have k282 := @kd_282 r d
  refine w_aloadn f312_1875 rfl (by omega) ?_
  refine w_aloadns f312_1876 rfl ?_
  refine w_iload f312_1877 rfl ?_
  refine w_iconst (v := 1) f312_1879 (by decide) ?_
  refine w_iaddn f312_1880 (by omega) ?_
  refine w_sald f312_1881 (by omega) rfl ?_
  refine w_aloadn f312_1882 rfl (by omega) ?_
  refine w_qS f312_1883 (Or.inl rfl) (Nat.le_of_ble_eq_true rfl) rfl rfl ⟨Nat.le_of_ble_eq_true rfl, rfl, Nat.le_of_ble_eq_true rfl⟩ (en304 _ _ _) (op42 q) (fun o9 ho9 => ?_)
  obtain ⟨x, h1, R1, rfl, hR, hu⟩ := ho9
  obtain ⟨c1, s1, rfl, hc, hs⟩ := hR.split
  refine w_bok (pv304 _ _) ?_
  refine w_istore f312_1886 (Nat.le_of_ble_eq_true rfl) (sto_9_5 rfl) ?_
  refine w_aloadn f312_1888 rfl (by omega) ?_
  refine w_aloadns f312_1889 rfl ?_
  refine w_iload f312_1890 rfl ?_
  refine w_iconst (v := 1) f312_1892 (by decide) ?_
  refine w_iaddn f312_1893 (by omega) ?_
  refine w_sald f312_1894 (by omega) rfl ?_
  refine w_qV f312_1895 (Or.inl rfl) rfl (by omega) (okd_of (by assumption)) rfl ⟨Nat.le_of_ble_eq_true rfl, rfl, Nat.le_of_ble_eq_true rfl⟩ (en263 _ _) (hu) (fun o9 ho9 => ?_)
  obtain ⟨y, h2, rfl, e6, e7, q2⟩ := ho9
  refine w_bok (pv263 _ _) ?_
  refine w_istore f312_1898 (Nat.le_of_ble_eq_true rfl) (sto_9_6 rfl) ?_
  refine w_aloadn f312_1900 rfl (by omega) ?_
  refine w_cV f312_1901 (Or.inl rfl) rfl (by omega) (okd_of (by assumption)) rfl ⟨Nat.le_of_ble_eq_true rfl, rfl, Nat.le_of_ble_eq_true rfl⟩ (en147 _) (s147) (pv147 _ _) ?_
  rw [e6]
  refine w_iload f312_1904 rfl ?_
  refine w_ic_eq (t := 1911) f312_1906 (by decide) (fun c1 => ?_) (fun c1 => absurd rfl c1)
  refine w_iload f312_1911 rfl ?_
  refine w_if_ne (t := 1935) f312_1913 (by decide) (fun c2 => ?_) (fun c2 => ?_)
  · refine w_goto (t := 2499) f312_1935 (by decide) ?_
    exact g _ _ _ _ _ _ _ _ _ q2 ⟨hc, hs⟩
  · refine w_aloadn f312_1916 rfl (by omega) ?_
    refine w_iconst (v := 0) f312_1917 (by decide) ?_
    refine w_lald f312_1918 (by assumption) (by omega) (by exact (e7 c2).1) ?_
    refine w_iload f312_1919 rfl ?_
    have ey : y = 0 ∨ y = 1 := (e7 c2).2
    refine w_if_eq (t := 1928) f312_1921 (by decide) (fun c3 => ?_) (fun c3 => ?_)
    · refine w_lconst (v := 0) f312_1928 rfl ?_
      refine w_lcmp f312_1929 ?_
      refine w_ifl_eq (t := 1935) f312_1930 (by decide) (fun c4 => ?_) (fun c4 => by omega)
      refine w_goto (t := 2499) f312_1935 (by decide) ?_
      exact g _ _ _ _ _ _ _ _ _ q2 ⟨hc, hs⟩
    · refine w_lconst (v := 1) f312_1924 rfl ?_
      refine w_goto (t := 1929) f312_1925 (by decide) ?_
      refine w_lcmp f312_1929 ?_
      refine w_ifl_eq (t := 1935) f312_1930 (by decide) (fun c5 => ?_) (fun c5 => by omega)
      refine w_goto (t := 2499) f312_1935 (by decide) ?_
      exact g _ _ _ _ _ _ _ _ _ q2 ⟨hc, hs⟩
theorem law43 (q : Rel r d N h h) (hN : 1 ≤ N ∧ N < 1000000000) (hi : 0 ≤ i) (hL : i + 6 ≤ (L : Int)) (hm : L ≤ 1000000) (g : LawG N i c0 s0 L f Q) : Rn (ev 312 1938 [AS 0, AR 1, AR 268, AR 282, AI i, v5, v6, v7, v8] [] (KS r d, h, c0, s0, L, f)) Q := by
  have k1 := @kd_1 r d
  have k268 := @kd_268 r d
  have k282 := @kd_282 r d
  refine w_aloadn f312_1938 rfl (by omega) ?_
  refine w_aloadns f312_1939 rfl ?_
  refine w_iload f312_1940 rfl ?_
  refine w_iconst (v := 1) f312_1942 (by decide) ?_
  refine w_iaddn f312_1943 (by omega) ?_
  refine w_sald f312_1944 (by omega) rfl ?_
  refine w_aloadn f312_1945 rfl (by omega) ?_
  refine w_qS f312_1946 (Or.inl rfl) (Nat.le_of_ble_eq_true rfl) rfl rfl ⟨Nat.le_of_ble_eq_true rfl, rfl, Nat.le_of_ble_eq_true rfl⟩ (en305 _ _ _) (op43 q) (fun o9 ho9 => ?_)
  obtain ⟨x, h1, R1, rfl, hR, hu⟩ := ho9
  obtain ⟨c1, s1, rfl, hc, hs⟩ := hR.split
  refine w_bok (pv305 _ _) ?_
  refine w_istore f312_1949 (Nat.le_of_ble_eq_true rfl) (sto_9_5 rfl) ?_
  refine w_aloadn f312_1951 rfl (by omega) ?_
  refine w_aloadns f312_1952 rfl ?_
  refine w_iload f312_1953 rfl ?_
  refine w_iconst (v := 1) f312_1955 (by decide) ?_
  refine w_iaddn f312_1956 (by omega) ?_
  refine w_sald f312_1957 (by omega) rfl ?_
  refine w_qV f312_1958 (Or.inl rfl) rfl (by omega) (okd_of (by assumption)) rfl ⟨Nat.le_of_ble_eq_true rfl, rfl, Nat.le_of_ble_eq_true rfl⟩ (en264 _ _) (hu) (fun o9 ho9 => ?_)
  obtain ⟨y, h2, rfl, e6, e7, q2⟩ := ho9
  refine w_bok (pv264 _ _) ?_
  refine w_istore f312_1961 (Nat.le_of_ble_eq_true rfl) (sto_9_6 rfl) ?_
  refine w_aloadn f312_1963 rfl (by omega) ?_
  refine w_cV f312_1964 (Or.inl rfl) rfl (by omega) (okd_of (by assumption)) rfl ⟨Nat.le_of_ble_eq_true rfl, rfl, Nat.le_of_ble_eq_true rfl⟩ (en147 _) (s147) (pv147 _ _) ?_
  rw [e6]
  refine w_iload f312_1967 rfl ?_
  refine w_ic_eq (t := 1974) f312_1969 (by decide) (fun c1 => ?_) (fun c1 => absurd rfl c1)
  refine w_iload f312_1974 rfl ?_
  refine w_if_ne (t := 1991) f312_1976 (by decide) (fun c2 => ?_) (fun c2 => ?_)
  · refine w_goto (t := 2499) f312_1991 (by decide) ?_
    exact g _ _ _ _ _ _ _ _ _ q2 ⟨hc, hs⟩
  · refine w_aloadn f312_1979 rfl (by omega) ?_
    refine w_iconst (v := 0) f312_1980 (by decide) ?_
    refine w_lald f312_1981 (by assumption) (by omega) (by exact (e7 c2).1) ?_
    refine w_iload f312_1982 rfl ?_
    refine w_i2l f312_1984 ?_
    refine w_lcmp f312_1985 ?_
    refine w_ifl_eq (t := 1991) f312_1986 (by decide) (fun c3 => ?_) (fun c3 => absurd rfl c3)
    refine w_goto (t := 2499) f312_1991 (by decide) ?_
    exact g _ _ _ _ _ _ _ _ _ q2 ⟨hc, hs⟩
theorem law44 (q : Rel r d N h h) (hN : 1 ≤ N ∧ N < 1000000000) (hi : 0 ≤ i) (hL : i + 6 ≤ (L : Int)) (hm : L ≤ 1000000) (g : LawG N i c0 s0 L f Q) : Rn (ev 312 1994 [AS 0, AR 1, AR 268, AR 282, AI i, v5, v6, v7, v8] [] (KS r d, h, c0, s0, L, f)) Q := by
  have k1 := @kd_1 r d
  have k268 := @kd_268 r d
  have k282 := @kd_282 r d
  refine w_aloadn f312_1994 rfl (by omega) ?_
  refine w_aloadns f312_1995 rfl ?_
  refine w_iload f312_1996 rfl ?_
  refine w_iconst (v := 1) f312_1998 (by decide) ?_
  refine w_iaddn f312_1999 (by omega) ?_
  refine w_sald f312_2000 (by omega) rfl ?_
  refine w_aloadn f312_2001 rfl (by omega) ?_
  refine w_qS f312_2002 (Or.inl rfl) (Nat.le_of_ble_eq_true rfl) rfl rfl ⟨Nat.le_of_ble_eq_true rfl, rfl, Nat.le_of_ble_eq_true rfl⟩ (en306 _ _ _) (op44 q) (fun o9 ho9 => ?_)
  obtain ⟨x, h1, R1, rfl, hR, hu⟩ := ho9
  obtain ⟨c1, s1, rfl, hc, hs⟩ := hR.split
  refine w_bok (pv306 _ _) ?_
  refine w_istore f312_2005 (Nat.le_of_ble_eq_true rfl) (sto_9_5 rfl) ?_
  refine w_aloadn f312_2007 rfl (by omega) ?_
  refine w_aloadns f312_2008 rfl ?_
  refine w_iload f312_2009 rfl ?_
  refine w_iconst (v := 1) f312_2011 (by decide) ?_
  refine w_iaddn f312_2012 (by omega) ?_
  refine w_sald f312_2013 (by omega) rfl ?_
  refine w_qV f312_2014 (Or.inl rfl) rfl (by omega) (okd_of (by assumption)) rfl ⟨Nat.le_of_ble_eq_true rfl, rfl, Nat.le_of_ble_eq_true rfl⟩ (en265 _ _) (hu) (fun o9 ho9 => ?_)
  obtain ⟨y, h2, rfl, e6, e7, q2⟩ := ho9
  refine w_bok (pv265 _ _) ?_
  refine w_istore f312_2017 (Nat.le_of_ble_eq_true rfl) (sto_9_6 rfl) ?_
  refine w_aloadn f312_2019 rfl (by omega) ?_
  refine w_cV f312_2020 (Or.inl rfl) rfl (by omega) (okd_of (by assumption)) rfl ⟨Nat.le_of_ble_eq_true rfl, rfl, Nat.le_of_ble_eq_true rfl⟩ (en147 _) (s147) (pv147 _ _) ?_
  rw [e6]
  refine w_iload f312_2023 rfl ?_
  refine w_ic_eq (t := 2030) f312_2025 (by decide) (fun c1 => ?_) (fun c1 => absurd rfl c1)
  refine w_iload f312_2030 rfl ?_
  refine w_if_ne (t := 2047) f312_2032 (by decide) (fun c2 => ?_) (fun c2 => ?_)
  · refine w_goto (t := 2499) f312_2047 (by decide) ?_
    exact g _ _ _ _ _ _ _ _ _ q2 ⟨hc, hs⟩
  · refine w_aloadn f312_2035 rfl (by omega) ?_
    refine w_iconst (v := 0) f312_2036 (by decide) ?_
    refine w_lald f312_2037 (by assumption) (by omega) (by exact (e7 c2).1) ?_
    refine w_iload f312_2038 rfl ?_
    refine w_i2l f312_2040 ?_
    refine w_lcmp f312_2041 ?_
    refine w_ifl_eq (t := 2047) f312_2042 (by decide) (fun c3 => ?_) (fun c3 => absurd rfl c3)
    refine w_goto (t := 2499) f312_2047 (by decide) ?_
    exact g _ _ _ _ _ _ _ _ _ q2 ⟨hc, hs⟩
theorem law45 (q : Rel r d N h h) (hN : 1 ≤ N ∧ N < 1000000000) (hi : 0 ≤ i) (hL : i + 6 ≤ (L : Int)) (hm : L ≤ 1000000) (g : LawG N i c0 s0 L f Q) : Rn (ev 312 2050 [AS 0, AR 1, AR 268, AR 282, AI i, v5, v6, v7, v8] [] (KS r d, h, c0, s0, L, f)) Q := by
  have k1 := @kd_1 r d
  have k268 := @kd_268 r d
  have k282 := @kd_282 r d
  refine w_aloadn f312_2050 rfl (by omega) ?_
  refine w_qV f312_2051 (Or.inl rfl) rfl (by omega) (okd_of (by assumption)) rfl ⟨Nat.le_of_ble_eq_true rfl, rfl, Nat.le_of_ble_eq_true rfl⟩ (en118 _) (op45 q) (fun o9 ho9 => ?_)
  obtain ⟨av, h1, r1, d1, rfl, ⟨v, rfl⟩, hu⟩ := ho9
  have j1 := @kd_1 r1 d1
  have j268 := @kd_268 r1 d1
  refine w_bok (pv118 _ _) ?_
  refine w_aloadn f312_2054 rfl (by omega) ?_
  refine w_qV f312_2055 (Or.inl rfl) rfl (by omega) (okd_of (by assumption)) rfl ⟨Nat.le_of_ble_eq_true rfl, rfl, Nat.le_of_ble_eq_true rfl⟩ (en266 _) (hu) (fun o9 ho9 => ?_)
  obtain ⟨h2, rfl, q2⟩ := ho9
  refine w_bok (pv266 _ _) ?_
  refine w_ic_eq (t := 2499) f312_2058 (by decide) (fun c1 => ?_) (fun c1 => absurd rfl c1)
  exact g _ _ _ _ _ _ _ _ _ q2 ⟨by omega, by omega⟩
theorem law46 (q : Rel r d N h h) (hN : 1 ≤ N ∧ N < 1000000000) (hi : 0 ≤ i) (hL : i + 6 ≤ (L : Int)) (hm : L ≤ 1000000) (g : LawG N i c0 s0 L f Q) : Rn (ev 312 2063 [AS 0, AR 1, AR 268, AR 282, AI i, v5, v6, v7, v8] [] (KS r d, h, c0, s0, L, f)) Q := by
  have k1 := @kd_1 r d
  have k268 := @kd_268 r d
  have k282 := @kd_282 r d
  refine w_aloadn f312_2063 rfl (by omega) ?_
  refine w_qV f312_2064 (Or.inl rfl) rfl (by omega) (okd_of (by assumption)) rfl ⟨Nat.le_of_ble_eq_true rfl, rfl, Nat.le_of_ble_eq_true rfl⟩ (en119 _) (op46 q) (fun o9 ho9 => ?_)
  obtain ⟨av, h1, r1, d1, rfl, ⟨v, rfl⟩, hu⟩ := ho9
  have j1 := @kd_1 r1 d1
  have j268 := @kd_268 r1 d1
  refine w_bok (pv119 _ _) ?_
  refine w_aloadn f312_2067 rfl (by omega) ?_
  refine w_qV f312_2068 (Or.inl rfl) rfl (by omega) (okd_of (by assumption)) rfl ⟨Nat.le_of_ble_eq_true rfl, rfl, Nat.le_of_ble_eq_true rfl⟩ (en267 _) (hu) (fun o9 ho9 => ?_)
  obtain ⟨h2, rfl, q2⟩ := ho9
  refine w_bok (pv267 _ _) ?_
  refine w_ic_eq (t := 2499) f312_2071 (by decide) (fun c1 => ?_) (fun c1 => absurd rfl c1)
  exact g _ _ _ _ _ _ _ _ _ q2 ⟨by omega, by omega⟩
theorem law47 (q : Rel r d N h h) (hN : 1 ≤ N ∧ N < 1000000000) (hi : 0 ≤ i) (hL : i + 6 ≤ (L : Int)) (hm : L ≤ 1000000) (g : LawG N i c0 s0 L f Q) : Rn (ev 312 2076 [AS 0, AR 1, AR 268, AR 282, AI i, v5, v6, v7, v8] [] (KS r d, h, c0, s0, L, f)) Q := by
  have k1 := @kd_1 r d
  have k268 := @kd_268 r d
  have k282 := @kd_282 r d
  refine w_aloadn f312_2076 rfl (by omega) ?_
  refine w_qV f312_2077 (Or.inl rfl) rfl (by omega) (okd_of (by assumption)) rfl ⟨Nat.le_of_ble_eq_true rfl, rfl, Nat.le_of_ble_eq_true rfl⟩ (en120 _) (op47 q) (fun o9 ho9 => ?_)
  obtain ⟨av, h1, r1, d1, rfl, ⟨v, rfl⟩, hu⟩ := ho9
  have j1 := @kd_1 r1 d1
  have j268 := @kd_268 r1 d1
  refine w_bok (pv120 _ _) ?_
  refine w_aloadn f312_2080 rfl (by omega) ?_
  refine w_qV f312_2081 (Or.inl rfl) rfl (by omega) (okd_of (by assumption)) rfl ⟨Nat.le_of_ble_eq_true rfl, rfl, Nat.le_of_ble_eq_true rfl⟩ (en269 _) (hu) (fun o9 ho9 => ?_)
  obtain ⟨h2, rfl, q2⟩ := ho9
  refine w_bok (pv269 _ _) ?_
  refine w_ic_eq (t := 2499) f312_2084 (by decide) (fun c1 => ?_) (fun c1 => absurd rfl c1)
  exact g _ _ _ _ _ _ _ _ _ q2 ⟨by omega, by omega⟩
theorem law48 (q : Rel r d N h h) (hN : 1 ≤ N ∧ N < 1000000000) (hi : 0 ≤ i) (hL : i + 6 ≤ (L : Int)) (hm : L ≤ 1000000) (g : LawG N i c0 s0 L f Q) : Rn (ev 312 2089 [AS 0, AR 1, AR 268, AR 282, AI i, v5, v6, v7, v8] [] (KS r d, h, c0, s0, L, f)) Q := by
  have k1 := @kd_1 r d
  have k268 := @kd_268 r d
  have k282 := @kd_282 r d
  refine w_aloadn f312_2089 rfl (by omega) ?_
  refine w_qV f312_2090 (Or.inl rfl) rfl (by omega) (okd_of (by assumption)) rfl ⟨Nat.le_of_ble_eq_true rfl, rfl, Nat.le_of_ble_eq_true rfl⟩ (en121 _) (op48 q) (fun o9 ho9 => ?_)
  obtain ⟨av, h1, r1, d1, rfl, ⟨v, rfl⟩, hu⟩ := ho9
  have j1 := @kd_1 r1 d1
  have j268 := @kd_268 r1 d1
  refine w_bok (pv121 _ _) ?_
  refine w_dstore f312_2093 (Nat.le_of_ble_eq_true rfl) (sto2_9_5 rfl) ?_
  refine w_aloadn f312_2095 rfl (by omega) ?_
  refine w_qV f312_2096 (Or.inl rfl) rfl (by omega) (okd_of (by assumption)) rfl ⟨Nat.le_of_ble_eq_true rfl, rfl, Nat.le_of_ble_eq_true rfl⟩ (en270 _) (hu) (fun o9 ho9 => ?_)
  obtain ⟨h2, rfl, q2⟩ := ho9
  refine w_bok (pv270 _ _) ?_
  refine w_dstore f312_2099 (Nat.le_of_ble_eq_true rfl) (sto2_9_7 rfl) ?_
  refine w_dload f312_2101 rfl ?_
  refine w_dload f312_2103 rfl ?_
  refine w_dcmp f312_2105 ?_
  refine w_if_eq (t := 2127) f312_2106 (by decide) (fun c1 => ?_) (fun c1 => ?_)
  · refine w_goto (t := 2499) f312_2127 (by decide) ?_
    exact g _ _ _ _ _ _ _ _ _ q2 ⟨by omega, by omega⟩
  · refine w_dload f312_2109 rfl ?_
    refine w_dload f312_2111 rfl ?_
    refine w_dcmp f312_2113 ?_
    refine w_if_eq (t := 2125) f312_2114 (by decide) (fun c2 => absurd c2 c1) (fun c2 => ?_)
    refine w_dload f312_2117 rfl ?_
    refine w_dload f312_2119 rfl ?_
    refine w_dcmp f312_2121 ?_
    refine w_if_ne (t := 2127) f312_2122 (by decide) (fun c3 => ?_) (fun c3 => absurd c3 c1)
    refine w_goto (t := 2499) f312_2127 (by decide) ?_
    exact g _ _ _ _ _ _ _ _ _ q2 ⟨by omega, by omega⟩
theorem law49 (q : Rel r d N h h) (hN : 1 ≤ N ∧ N < 1000000000) (hi : 0 ≤ i) (hL : i + 6 ≤ (L : Int)) (hm : L ≤ 1000000) (g : LawG N i c0 s0 L f Q) : Rn (ev 312 2130 [AS 0, AR 1, AR 268, AR 282, AI i, v5, v6, v7, v8] [] (KS r d, h, c0, s0, L, f)) Q := by
  have k1 := @kd_1 r d
  have k268 := @kd_268 r d
  have k282 := @kd_282 r d
  refine w_aloadn f312_2130 rfl (by omega) ?_
  refine w_aloadns f312_2131 rfl ?_
  refine w_iload f312_2132 rfl ?_
  refine w_iconst (v := 1) f312_2134 (by decide) ?_
  refine w_iaddn f312_2135 (by omega) ?_
  refine w_sald f312_2136 (by omega) rfl ?_
  refine w_aloadn f312_2137 rfl (by omega) ?_
  refine w_qS f312_2138 (Or.inl rfl) (Nat.le_of_ble_eq_true rfl) rfl rfl ⟨Nat.le_of_ble_eq_true rfl, rfl, Nat.le_of_ble_eq_true rfl⟩ (en307 _ _ _) (op49 q hN) (fun o9 ho9 => ?_)
  obtain ⟨x, h1, R1, rfl, hR, hu⟩ := ho9
  obtain ⟨c1, s1, rfl, hc, hs⟩ := hR.split
  refine w_bok (pv307 _ _) ?_
  refine w_istore f312_2141 (Nat.le_of_ble_eq_true rfl) (sto_9_5 rfl) ?_
  refine w_aloadn f312_2143 rfl (by omega) ?_
  refine w_aloadns f312_2144 rfl ?_
  refine w_iload f312_2145 rfl ?_
  refine w_iconst (v := 1) f312_2147 (by decide) ?_
  refine w_iaddn f312_2148 (by omega) ?_
  refine w_sald f312_2149 (by omega) rfl ?_
  refine w_qV f312_2150 (Or.inl rfl) rfl (by omega) (okd_of (by assumption)) rfl ⟨Nat.le_of_ble_eq_true rfl, rfl, Nat.le_of_ble_eq_true rfl⟩ (en271 _ _) (hu) (fun o9 ho9 => ?_)
  obtain ⟨y, h2, rfl, e6, e7, q2⟩ := ho9
  refine w_bok (pv271 _ _) ?_
  refine w_istore f312_2153 (Nat.le_of_ble_eq_true rfl) (sto_9_6 rfl) ?_
  refine w_aloadn f312_2155 rfl (by omega) ?_
  refine w_cV f312_2156 (Or.inl rfl) rfl (by omega) (okd_of (by assumption)) rfl ⟨Nat.le_of_ble_eq_true rfl, rfl, Nat.le_of_ble_eq_true rfl⟩ (en147 _) (s147) (pv147 _ _) ?_
  rw [e6]
  refine w_iload f312_2159 rfl ?_
  refine w_ic_eq (t := 2166) f312_2161 (by decide) (fun c1 => ?_) (fun c1 => absurd rfl c1)
  refine w_iload f312_2166 rfl ?_
  refine w_if_ne (t := 2183) f312_2168 (by decide) (fun c2 => ?_) (fun c2 => ?_)
  · refine w_goto (t := 2499) f312_2183 (by decide) ?_
    exact g _ _ _ _ _ _ _ _ _ q2 ⟨hc, hs⟩
  · refine w_aloadn f312_2171 rfl (by omega) ?_
    refine w_iconst (v := 0) f312_2172 (by decide) ?_
    refine w_lald f312_2173 (by assumption) (by omega) (by exact (e7 c2).1) ?_
    refine w_iload f312_2174 rfl ?_
    refine w_i2l f312_2176 ?_
    refine w_lcmp f312_2177 ?_
    refine w_ifl_eq (t := 2183) f312_2178 (by decide) (fun c3 => ?_) (fun c3 => absurd rfl c3)
    refine w_goto (t := 2499) f312_2183 (by decide) ?_
    exact g _ _ _ _ _ _ _ _ _ q2 ⟨hc, hs⟩
theorem law50 (q : Rel r d N h h) (hN : 1 ≤ N ∧ N < 1000000000) (hi : 0 ≤ i) (hL : i + 6 ≤ (L : Int)) (hm : L ≤ 1000000) (g : LawG N i c0 s0 L f Q) : Rn (ev 312 2186 [AS 0, AR 1, AR 268, AR 282, AI i, v5, v6, v7, v8] [] (KS r d, h, c0, s0, L, f)) Q := by
  have k1 := @kd_1 r d
  have k268 := @kd_268 r d
  have k282 := @kd_282 r d
  refine w_aloadn f312_2186 rfl (by omega) ?_
  refine w_aloadns f312_2187 rfl ?_
  refine w_iload f312_2188 rfl ?_
  refine w_iconst (v := 1) f312_2190 (by decide) ?_
  refine w_iaddn f312_2191 (by omega) ?_
  refine w_sald f312_2192 (by omega) rfl ?_
  refine w_aloadns f312_2193 rfl ?_
  refine w_iload f312_2194 rfl ?_
  refine w_iconst (v := 2) f312_2196 (by decide) ?_
  refine w_iaddn f312_2197 (by omega) ?_
  refine w_sald f312_2198 (by omega) rfl ?_
  refine w_aloadn f312_2199 rfl (by omega) ?_
  refine w_qS f312_2200 (Or.inl rfl) (Nat.le_of_ble_eq_true rfl) rfl rfl ⟨Nat.le_of_ble_eq_true rfl, rfl, Nat.le_of_ble_eq_true rfl⟩ (en308 _ _ _ _) (op50 q hN) (fun o9 ho9 => ?_)
  obtain ⟨x, h1, R1, rfl, hR, hu⟩ := ho9
  obtain ⟨c1, s1, rfl, hc, hs⟩ := hR.split
  refine w_bok (pv308 _ _) ?_
  refine w_istore f312_2203 (Nat.le_of_ble_eq_true rfl) (sto_9_5 rfl) ?_
  refine w_aloadn f312_2205 rfl (by omega) ?_
  refine w_aloadns f312_2206 rfl ?_
  refine w_iload f312_2207 rfl ?_
  refine w_iconst (v := 1) f312_2209 (by decide) ?_
  refine w_iaddn f312_2210 (by omega) ?_
  refine w_sald f312_2211 (by omega) rfl ?_
  refine w_aloadns f312_2212 rfl ?_
  refine w_iload f312_2213 rfl ?_
  refine w_iconst (v := 2) f312_2215 (by decide) ?_
  refine w_iaddn f312_2216 (by omega) ?_
  refine w_sald f312_2217 (by omega) rfl ?_
  refine w_qV f312_2218 (Or.inl rfl) rfl (by omega) (okd_of (by assumption)) rfl ⟨Nat.le_of_ble_eq_true rfl, rfl, Nat.le_of_ble_eq_true rfl⟩ (en272 _ _ _) (hu) (fun o9 ho9 => ?_)
  obtain ⟨y, h2, rfl, e6, e7, q2⟩ := ho9
  refine w_bok (pv272 _ _) ?_
  refine w_istore f312_2221 (Nat.le_of_ble_eq_true rfl) (sto_9_6 rfl) ?_
  refine w_aloadn f312_2223 rfl (by omega) ?_
  refine w_cV f312_2224 (Or.inl rfl) rfl (by omega) (okd_of (by assumption)) rfl ⟨Nat.le_of_ble_eq_true rfl, rfl, Nat.le_of_ble_eq_true rfl⟩ (en147 _) (s147) (pv147 _ _) ?_
  rw [e6]
  refine w_iload f312_2227 rfl ?_
  refine w_ic_eq (t := 2234) f312_2229 (by decide) (fun c1 => ?_) (fun c1 => absurd rfl c1)
  refine w_iload f312_2234 rfl ?_
  refine w_if_ne (t := 2251) f312_2236 (by decide) (fun c2 => ?_) (fun c2 => ?_)
  · refine w_goto (t := 2499) f312_2251 (by decide) ?_
    exact g _ _ _ _ _ _ _ _ _ q2 ⟨hc, hs⟩
  · refine w_aloadn f312_2239 rfl (by omega) ?_
    refine w_iconst (v := 0) f312_2240 (by decide) ?_
    refine w_lald f312_2241 (by assumption) (by omega) (by exact (e7 c2).1) ?_
    refine w_iload f312_2242 rfl ?_
    refine w_i2l f312_2244 ?_
    refine w_lcmp f312_2245 ?_
    refine w_ifl_eq (t := 2251) f312_2246 (by decide) (fun c3 => ?_) (fun c3 => absurd rfl c3)
    refine w_goto (t := 2499) f312_2251 (by decide) ?_
    exact g _ _ _ _ _ _ _ _ _ q2 ⟨hc, hs⟩
theorem law51 (q : Rel r d N h h) (hN : 1 ≤ N ∧ N < 1000000000) (hi : 0 ≤ i) (hL : i + 6 ≤ (L : Int)) (hm : L ≤ 1000000) (g : LawG N i c0 s0 L f Q) : Rn (ev 312 2254 [AS 0, AR 1, AR 268, AR 282, AI i, v5, v6, v7, v8] [] (KS r d, h, c0, s0, L, f)) Q := by
  have k1 := @kd_1 r d
  have k268 := @kd_268 r d
  have k282 := @kd_282 r d
  refine w_aloadn f312_2254 rfl (by omega) ?_
  refine w_qV f312_2255 (Or.inl rfl) rfl (by omega) (okd_of (by assumption)) rfl ⟨Nat.le_of_ble_eq_true rfl, rfl, Nat.le_of_ble_eq_true rfl⟩ (en124 _) (op51 q hN) (fun o9 ho9 => ?_)
  obtain ⟨av, h1, r1, d1, rfl, ⟨v, rfl⟩, hu⟩ := ho9
  have j1 := @kd_1 r1 d1
  have j268 := @kd_268 r1 d1
  refine w_bok (pv124 _ _) ?_
  refine w_aloadn f312_2258 rfl (by omega) ?_
  refine w_qV f312_2259 (Or.inl rfl) rfl (by omega) (okd_of (by assumption)) rfl ⟨Nat.le_of_ble_eq_true rfl, rfl, Nat.le_of_ble_eq_true rfl⟩ (en273 _) (hu) (fun o9 ho9 => ?_)
  obtain ⟨h2, rfl, q2⟩ := ho9
  refine w_bok (pv273 _ _) ?_
  refine w_ic_eq (t := 2499) f312_2262 (by decide) (fun c1 => ?_) (fun c1 => absurd rfl c1)
  exact g _ _ _ _ _ _ _ _ _ q2 ⟨by omega, by omega⟩
theorem law52 (q : Rel r d N h h) (hN : 1 ≤ N ∧ N < 1000000000) (hi : 0 ≤ i) (hL : i + 6 ≤ (L : Int)) (hm : L ≤ 1000000) (g : LawG N i c0 s0 L f Q) : Rn (ev 312 2267 [AS 0, AR 1, AR 268, AR 282, AI i, v5, v6, v7, v8] [] (KS r d, h, c0, s0, L, f)) Q := by
  have k1 := @kd_1 r d
  have k268 := @kd_268 r d
  have k282 := @kd_282 r d
  refine w_aloadn f312_2267 rfl (by omega) ?_
  refine w_qV f312_2268 (Or.inl rfl) rfl (by omega) (okd_of (by assumption)) rfl ⟨Nat.le_of_ble_eq_true rfl, rfl, Nat.le_of_ble_eq_true rfl⟩ (en125 _) (op52 q hN) (fun o9 ho9 => ?_)
  obtain ⟨av, h1, r1, d1, rfl, ⟨v, rfl⟩, hu⟩ := ho9
  have j1 := @kd_1 r1 d1
  have j268 := @kd_268 r1 d1
  refine w_bok (pv125 _ _) ?_
  refine w_aloadn f312_2271 rfl (by omega) ?_
  refine w_qV f312_2272 (Or.inl rfl) rfl (by omega) (okd_of (by assumption)) rfl ⟨Nat.le_of_ble_eq_true rfl, rfl, Nat.le_of_ble_eq_true rfl⟩ (en274 _) (hu) (fun o9 ho9 => ?_)
  obtain ⟨h2, rfl, q2⟩ := ho9
  refine w_bok (pv274 _ _) ?_
  refine w_ic_eq (t := 2499) f312_2275 (by decide) (fun c1 => ?_) (fun c1 => absurd rfl c1)
  exact g _ _ _ _ _ _ _ _ _ q2 ⟨by omega, by omega⟩
theorem law53 (q : Rel r d N h h) (hN : 1 ≤ N ∧ N < 1000000000) (hi : 0 ≤ i) (hL : i + 6 ≤ (L : Int)) (hm : L ≤ 1000000) (g : LawG N i c0 s0 L f Q) : Rn (ev 312 2280 [AS 0, AR 1, AR 268, AR 282, AI i, v5, v6, v7, v8] [] (KS r d, h, c0, s0, L, f)) Q := by
  have k1 := @kd_1 r d
  have k268 := @kd_268 r d
  have k282 := @kd_282 r d
  refine w_aloadn f312_2280 rfl (by omega) ?_
  refine w_aloadns f312_2281 rfl ?_
  refine w_iload f312_2282 rfl ?_
  refine w_iconst (v := 1) f312_2284 (by decide) ?_
  refine w_iaddn f312_2285 (by omega) ?_
  refine w_sald f312_2286 (by omega) rfl ?_
  refine w_aloadns f312_2287 rfl ?_
  refine w_iload f312_2288 rfl ?_
  refine w_iconst (v := 2) f312_2290 (by decide) ?_
  refine w_iaddn f312_2291 (by omega) ?_
  refine w_sald f312_2292 (by omega) rfl ?_
  refine w_aloadns f312_2293 rfl ?_
  refine w_iload f312_2294 rfl ?_
  refine w_iconst (v := 3) f312_2296 (by decide) ?_
  refine w_iaddn f312_2297 (by omega) ?_
  refine w_sald f312_2298 (by omega) rfl ?_
  refine w_aloadn f312_2299 rfl (by omega) ?_
  refine w_qS f312_2300 (Or.inl rfl) (Nat.le_of_ble_eq_true rfl) rfl rfl ⟨Nat.le_of_ble_eq_true rfl, rfl, Nat.le_of_ble_eq_true rfl⟩ (en309 _ _ _ _ _) (op53 q hN) (fun o9 ho9 => ?_)
  obtain ⟨x, h1, R1, rfl, hR, hu⟩ := ho9
  obtain ⟨c1, s1, rfl, hc, hs⟩ := hR.split
  refine w_bok (pv309 _ _) ?_
  refine w_istore f312_2303 (Nat.le_of_ble_eq_true rfl) (sto_9_5 rfl) ?_
  refine w_aloadn f312_2305 rfl (by omega) ?_
  refine w_aloadns f312_2306 rfl ?_
  refine w_iload f312_2307 rfl ?_
  refine w_iconst (v := 1) f312_2309 (by decide) ?_
  refine w_iaddn f312_2310 (by omega) ?_
  refine w_sald f312_2311 (by omega) rfl ?_
  refine w_aloadns f312_2312 rfl ?_
  refine w_iload f312_2313 rfl ?_
  refine w_iconst (v := 2) f312_2315 (by decide) ?_
  refine w_iaddn f312_2316 (by omega) ?_
  refine w_sald f312_2317 (by omega) rfl ?_
  refine w_aloadns f312_2318 rfl ?_
  refine w_iload f312_2319 rfl ?_
  refine w_iconst (v := 3) f312_2321 (by decide) ?_
  refine w_iaddn f312_2322 (by omega) ?_
  refine w_sald f312_2323 (by omega) rfl ?_
  refine w_qV f312_2324 (Or.inl rfl) rfl (by omega) (okd_of (by assumption)) rfl ⟨Nat.le_of_ble_eq_true rfl, rfl, Nat.le_of_ble_eq_true rfl⟩ (en276 _ _ _ _) (hu) (fun o9 ho9 => ?_)
  obtain ⟨y, h2, rfl, e6, e7, q2⟩ := ho9
  refine w_bok (pv276 _ _) ?_
  refine w_istore f312_2327 (Nat.le_of_ble_eq_true rfl) (sto_9_6 rfl) ?_
  refine w_aloadn f312_2329 rfl (by omega) ?_
  refine w_cV f312_2330 (Or.inl rfl) rfl (by omega) (okd_of (by assumption)) rfl ⟨Nat.le_of_ble_eq_true rfl, rfl, Nat.le_of_ble_eq_true rfl⟩ (en147 _) (s147) (pv147 _ _) ?_
  rw [e6]
  refine w_iload f312_2333 rfl ?_
  refine w_ic_eq (t := 2340) f312_2335 (by decide) (fun c1 => ?_) (fun c1 => absurd rfl c1)
  refine w_iload f312_2340 rfl ?_
  refine w_if_ne (t := 2357) f312_2342 (by decide) (fun c2 => ?_) (fun c2 => ?_)
  · refine w_goto (t := 2499) f312_2357 (by decide) ?_
    exact g _ _ _ _ _ _ _ _ _ q2 ⟨hc, hs⟩
  · refine w_aloadn f312_2345 rfl (by omega) ?_
    refine w_iconst (v := 0) f312_2346 (by decide) ?_
    refine w_lald f312_2347 (by assumption) (by omega) (by exact (e7 c2).1) ?_
    refine w_iload f312_2348 rfl ?_
    refine w_i2l f312_2350 ?_
    refine w_lcmp f312_2351 ?_
    refine w_ifl_eq (t := 2357) f312_2352 (by decide) (fun c3 => ?_) (fun c3 => absurd rfl c3)
    refine w_goto (t := 2499) f312_2357 (by decide) ?_
    exact g _ _ _ _ _ _ _ _ _ q2 ⟨hc, hs⟩
theorem law54 (q : Rel r d N h h) (hN : 1 ≤ N ∧ N < 1000000000) (hi : 0 ≤ i) (hL : i + 6 ≤ (L : Int)) (hm : L ≤ 1000000) (g : LawG N i c0 s0 L f Q) : Rn (ev 312 2360 [AS 0, AR 1, AR 268, AR 282, AI i, v5, v6, v7, v8] [] (KS r d, h, c0, s0, L, f)) Q := by
  have k1 := @kd_1 r d
  have k268 := @kd_268 r d
  have k282 := @kd_282 r d
  refine w_aloadn f312_2360 rfl (by omega) ?_
  refine w_aloadn f312_2361 rfl (by omega) ?_
  refine w_qS f312_2362 (Or.inl rfl) (Nat.le_of_ble_eq_true rfl) rfl rfl ⟨Nat.le_of_ble_eq_true rfl, rfl, Nat.le_of_ble_eq_true rfl⟩ (en310 _ _) (op54 q hN) (fun o9 ho9 => ?_)
  obtain ⟨x, h1, R1, rfl, hR, hu⟩ := ho9
  obtain ⟨c1, s1, rfl, hc, hs⟩ := hR.split
  refine w_bok (pv310 _ _) ?_
  refine w_istore f312_2365 (Nat.le_of_ble_eq_true rfl) (sto_9_5 rfl) ?_
  refine w_aloadn f312_2367 rfl (by omega) ?_
  refine w_qV f312_2368 (Or.inl rfl) rfl (by omega) (okd_of (by assumption)) rfl ⟨Nat.le_of_ble_eq_true rfl, rfl, Nat.le_of_ble_eq_true rfl⟩ (en277 _) (hu) (fun o9 ho9 => ?_)
  obtain ⟨y, h2, rfl, e6, e7, q2⟩ := ho9
  refine w_bok (pv277 _ _) ?_
  refine w_istore f312_2371 (Nat.le_of_ble_eq_true rfl) (sto_9_6 rfl) ?_
  refine w_aloadn f312_2373 rfl (by omega) ?_
  refine w_cV f312_2374 (Or.inl rfl) rfl (by omega) (okd_of (by assumption)) rfl ⟨Nat.le_of_ble_eq_true rfl, rfl, Nat.le_of_ble_eq_true rfl⟩ (en147 _) (s147) (pv147 _ _) ?_
  rw [e6]
  refine w_iload f312_2377 rfl ?_
  refine w_ic_eq (t := 2384) f312_2379 (by decide) (fun c1 => ?_) (fun c1 => absurd rfl c1)
  refine w_iload f312_2384 rfl ?_
  refine w_if_ne (t := 2401) f312_2386 (by decide) (fun c2 => ?_) (fun c2 => ?_)
  · refine w_goto (t := 2499) f312_2401 (by decide) ?_
    exact g _ _ _ _ _ _ _ _ _ q2 ⟨hc, hs⟩
  · refine w_aloadn f312_2389 rfl (by omega) ?_
    refine w_iconst (v := 0) f312_2390 (by decide) ?_
    refine w_lald f312_2391 (by assumption) (by omega) (by exact (e7 c2).1) ?_
    refine w_iload f312_2392 rfl ?_
    refine w_i2l f312_2394 ?_
    refine w_lcmp f312_2395 ?_
    refine w_ifl_eq (t := 2401) f312_2396 (by decide) (fun c3 => ?_) (fun c3 => absurd rfl c3)
    refine w_goto (t := 2499) f312_2401 (by decide) ?_
    exact g _ _ _ _ _ _ _ _ _ q2 ⟨hc, hs⟩
theorem law55 (q : Rel r d N h h) (hN : 1 ≤ N ∧ N < 1000000000) (hi : 0 ≤ i) (hL : i + 6 ≤ (L : Int)) (hm : L ≤ 1000000) (g : LawG N i c0 s0 L f Q) : Rn (ev 312 2404 [AS 0, AR 1, AR 268, AR 282, AI i, v5, v6, v7, v8] [] (KS r d, h, c0, s0, L, f)) Q := by
  have k1 := @kd_1 r d
  have k268 := @kd_268 r d
  have k282 := @kd_282 r d
  refine w_aloadn f312_2404 rfl (by omega) ?_
  refine w_qV f312_2405 (Or.inl rfl) rfl (by omega) (okd_of (by assumption)) rfl ⟨Nat.le_of_ble_eq_true rfl, rfl, Nat.le_of_ble_eq_true rfl⟩ (en128 _) (op55 q hN) (fun o9 ho9 => ?_)
  obtain ⟨av, h1, r1, d1, rfl, ⟨v, rfl⟩, hu⟩ := ho9
  have j1 := @kd_1 r1 d1
  have j268 := @kd_268 r1 d1
  refine w_bok (pv128 _ _) ?_
  refine w_aloadn f312_2408 rfl (by omega) ?_
  refine w_qV f312_2409 (Or.inl rfl) rfl (by omega) (okd_of (by assumption)) rfl ⟨Nat.le_of_ble_eq_true rfl, rfl, Nat.le_of_ble_eq_true rfl⟩ (en280 _) (hu) (fun o9 ho9 => ?_)
  obtain ⟨h2, rfl, q2⟩ := ho9
  refine w_bok (pv280 _ _) ?_
  refine w_ic_eq (t := 2499) f312_2412 (by decide) (fun c1 => ?_) (fun c1 => absurd rfl c1)
  exact g _ _ _ _ _ _ _ _ _ q2 ⟨by omega, by omega⟩
theorem law56 (q : Rel r d N h h) (hN : 1 ≤ N ∧ N < 1000000000) (hi : 0 ≤ i) (hL : i + 6 ≤ (L : Int)) (hm : L ≤ 1000000) (g : LawG N i c0 s0 L f Q) : Rn (ev 312 2417 [AS 0, AR 1, AR 268, AR 282, AI i, v5, v6, v7, v8] [] (KS r d, h, c0, s0, L, f)) Q := by
  have k1 := @kd_1 r d
  have k268 := @kd_268 r d
  have k282 := @kd_282 r d
  refine w_aloadn f312_2417 rfl (by omega) ?_
  refine w_aloadns f312_2418 rfl ?_
  refine w_iload f312_2419 rfl ?_
  refine w_iconst (v := 1) f312_2421 (by decide) ?_
  refine w_iaddn f312_2422 (by omega) ?_
  refine w_sald f312_2423 (by omega) rfl ?_
  refine w_qV f312_2424 (Or.inl rfl) rfl (by omega) (okd_of (by assumption)) rfl ⟨Nat.le_of_ble_eq_true rfl, rfl, Nat.le_of_ble_eq_true rfl⟩ (en129 _ _) (op56 q hN) (fun o9 ho9 => ?_)
  obtain ⟨av, h1, r1, d1, rfl, ⟨v, rfl⟩, hu⟩ := ho9
  have j1 := @kd_1 r1 d1
  have j268 := @kd_268 r1 d1
  refine w_bok (pv129 _ _) ?_
  refine w_aloadn f312_2427 rfl (by omega) ?_
  refine w_aloadns f312_2428 rfl ?_
  refine w_iload f312_2429 rfl ?_
  refine w_iconst (v := 1) f312_2431 (by decide) ?_
  refine w_iaddn f312_2432 (by omega) ?_
  refine w_sald f312_2433 (by omega) rfl ?_
  refine w_qV f312_2434 (Or.inl rfl) rfl (by omega) (okd_of (by assumption)) rfl ⟨Nat.le_of_ble_eq_true rfl, rfl, Nat.le_of_ble_eq_true rfl⟩ (en281 _ _) (hu) (fun o9 ho9 => ?_)
  obtain ⟨h2, rfl, q2⟩ := ho9
  refine w_bok (pv281 _ _) ?_
  refine w_ic_eq (t := 2499) f312_2437 (by decide) (fun c1 => ?_) (fun c1 => absurd rfl c1)
  exact g _ _ _ _ _ _ _ _ _ q2 ⟨by omega, by omega⟩
theorem law57 (q : Rel r d N h h) (hN : 1 ≤ N ∧ N < 1000000000) (hi : 0 ≤ i) (hL : i + 6 ≤ (L : Int)) (hm : L ≤ 1000000) (g : LawG N i c0 s0 L f Q) : Rn (ev 312 2442 [AS 0, AR 1, AR 268, AR 282, AI i, v5, v6, v7, v8] [] (KS r d, h, c0, s0, L, f)) Q := by
  have k1 := @kd_1 r d
  have k268 := @kd_268 r d
  have k282 := @kd_282 r d
  refine w_aloadn f312_2442 rfl (by omega) ?_
  refine w_qV f312_2443 (Or.inl rfl) rfl (by omega) (okd_of (by assumption)) rfl ⟨Nat.le_of_ble_eq_true rfl, rfl, Nat.le_of_ble_eq_true rfl⟩ (en130 _) (op57 q hN) (fun o9 ho9 => ?_)
  obtain ⟨av, h1, r1, d1, rfl, ⟨v, rfl⟩, hu⟩ := ho9
  have j1 := @kd_1 r1 d1
  have j268 := @kd_268 r1 d1
  refine w_bok (pv130 _ _) ?_
  refine w_aloadn f312_2446 rfl (by omega) ?_
  refine w_qV f312_2447 (Or.inl rfl) rfl (by omega) (okd_of (by assumption)) rfl ⟨Nat.le_of_ble_eq_true rfl, rfl, Nat.le_of_ble_eq_true rfl⟩ (en282 _) (hu) (fun o9 ho9 => ?_)
  obtain ⟨h2, rfl, q2⟩ := ho9
  refine w_bok (pv282 _ _) ?_
  refine w_ic_eq (t := 2499) f312_2450 (by decide) (fun c1 => ?_) (fun c1 => absurd rfl c1)
  exact g _ _ _ _ _ _ _ _ _ q2 ⟨by omega, by omega⟩
theorem law58 (q : Rel r d N h h) (hN : 1 ≤ N ∧ N < 1000000000) (hi : 0 ≤ i) (hL : i + 6 ≤ (L : Int)) (hm : L ≤ 1000000) (g : LawG N i c0 s0 L f Q) : Rn (ev 312 2455 [AS 0, AR 1, AR 268, AR 282, AI i, v5, v6, v7, v8] [] (KS r d, h, c0, s0, L, f)) Q := by
  have k1 := @kd_1 r d
  have k268 := @kd_268 r d
  have k282 := @kd_282 r d
  refine w_aloadn f312_2455 rfl (by omega) ?_
  refine w_aloadn f312_2456 rfl (by omega) ?_
  refine w_qS f312_2457 (Or.inl rfl) (Nat.le_of_ble_eq_true rfl) rfl rfl ⟨Nat.le_of_ble_eq_true rfl, rfl, Nat.le_of_ble_eq_true rfl⟩ (en311 _ _) (op58 q hN) (fun o9 ho9 => ?_)
  obtain ⟨x, h1, R1, rfl, hR, hu⟩ := ho9
  obtain ⟨c1, s1, rfl, hc, hs⟩ := hR.split
  refine w_bok (pv311 _ _) ?_
  refine w_istore f312_2460 (Nat.le_of_ble_eq_true rfl) (sto_9_5 rfl) ?_
  refine w_aloadn f312_2462 rfl (by omega) ?_
  refine w_qV f312_2463 (Or.inl rfl) rfl (by omega) (okd_of (by assumption)) rfl ⟨Nat.le_of_ble_eq_true rfl, rfl, Nat.le_of_ble_eq_true rfl⟩ (en283 _) (hu) (fun o9 ho9 => ?_)
  obtain ⟨y, h2, rfl, e6, e7, q2⟩ := ho9
  refine w_bok (pv283 _ _) ?_
  refine w_istore f312_2466 (Nat.le_of_ble_eq_true rfl) (sto_9_6 rfl) ?_
  refine w_aloadn f312_2468 rfl (by omega) ?_
  refine w_cV f312_2469 (Or.inl rfl) rfl (by omega) (okd_of (by assumption)) rfl ⟨Nat.le_of_ble_eq_true rfl, rfl, Nat.le_of_ble_eq_true rfl⟩ (en147 _) (s147) (pv147 _ _) ?_
  rw [e6]
  refine w_iload f312_2472 rfl ?_
  refine w_ic_eq (t := 2479) f312_2474 (by decide) (fun c1 => ?_) (fun c1 => absurd rfl c1)
  refine w_iload f312_2479 rfl ?_
  refine w_if_ne (t := 2496) f312_2481 (by decide) (fun c2 => ?_) (fun c2 => ?_)
  · refine w_goto (t := 2499) f312_2496 (by decide) ?_
    exact g _ _ _ _ _ _ _ _ _ q2 ⟨hc, hs⟩
  · refine w_aloadn f312_2484 rfl (by omega) ?_
    refine w_iconst (v := 0) f312_2485 (by decide) ?_
    refine w_lald f312_2486 (by assumption) (by omega) (by exact (e7 c2).1) ?_
    refine w_iload f312_2487 rfl ?_
    refine w_i2l f312_2489 ?_
    refine w_lcmp f312_2490 ?_
    refine w_ifl_eq (t := 2496) f312_2491 (by decide) (fun c3 => ?_) (fun c3 => absurd rfl c3)
    refine w_goto (t := 2499) f312_2496 (by decide) ?_
    exact g _ _ _ _ _ _ _ _ _ q2 ⟨hc, hs⟩
end A

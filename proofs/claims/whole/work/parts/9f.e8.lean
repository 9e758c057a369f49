/-! the law: a case for each call -/
section C26
variable {G : sG} {d d' : sD}
theorem T_slen {M : sM} {pc : Nat} {ls st : List sV} {Q : Option sV → sD → Prop} (hd : decode (mC M) pc = .ok (.arraylength, 1)) (hn : G.2.2.1 < 2147483648) (kk : tB G M (pc + 1) ls (vI (G.2.2.1 : Int) :: st) d Q) : tB G M pc ls (vU 1 :: st) d Q := fun hR => B_slen hd hn (kk hR)
/-- an int of the script -/
def sc (G : sG) (j : Nat) : Int := (G.2.2.2 j).toInt
theorem T_sld {M : sM} {pc j : Nat} {ls st : List sV} {Q : Option sV → sD → Prop} {i : Int} (hd : decode (mC M) pc = .ok (.iaload, 1)) (hj : i = (j : Int)) (hi2 : j < G.2.2.1) (kk : tB G M (pc + 1) ls (vI (sc G j) :: st) d Q) : tB G M pc ls (vI i :: vU 1 :: st) d Q := fun hR => by
  subst hj
  exact B_sld hd (by omega) (by omega) (kk hR)
abbrev lwR : Option sV → sD → Prop := fun r _ => r = some (vI 1)
abbrev lwL (k : Nat) : List sV := [vU 1, vR 1, vR 271, vI k]

def v_war (mm : Nat → Int) (k x : Int) : Int := if (0 ≤ k ∧ k ≤ mm 0 - 1) then qWar (fun x => mm (610 + 89 * k.toNat + x)) x else -1
def v_order (mm : Nat → Int) (k a i x : Int) : Int := if (0 ≤ k ∧ k ≤ mm 0 - 1) then qOrder (fun x => mm (610 + 89 * k.toNat + x)) a i x else -1
def v_given (mm : Nat → Int) (k a i : Int) : Int := if (0 ≤ k ∧ k ≤ mm 1 - 1) then qGiven (fun x => mm (788 + 26 * k.toNat + x)) a i else -1
def v_row (mm : Nat → Int) (k l i x : Int) : Int := if ((0 ≤ k ∧ k ≤ mm 0 - 1) ∧ 0 ≤ l ∧ l ≤ mm 1 - 1) then qRow (fun x => mm (610 + 89 * k.toNat + x)) (fun x => mm (788 + 26 * l.toNat + x)) i x else -2
def v_heard (mm : Nat → Int) (k l a i : Int) : Int := if ((0 ≤ k ∧ k ≤ mm 0 - 1) ∧ 0 ≤ l ∧ l ≤ mm 1 - 1) then qHeard (fun x => mm (610 + 89 * k.toNat + x)) (fun x => mm (788 + 26 * l.toNat + x)) a i else -1
def v_made (mm : Nat → Int) (k l a i x : Int) : Int := if ((0 ≤ k ∧ k ≤ mm 0 - 1) ∧ 0 ≤ l ∧ l ≤ mm 1 - 1) then qMade (fun x => mm (610 + 89 * k.toNat + x)) (fun x => mm (788 + 26 * l.toNat + x)) a i x else -2
def v_march (mm : Nat → Int) (k l a i : Int) : Int := if ((0 ≤ k ∧ k ≤ mm 0 - 1) ∧ 0 ≤ l ∧ l ≤ mm 1 - 1) then qMarch (fun x => mm (610 + 89 * k.toNat + x)) (fun x => mm (788 + 26 * l.toNat + x)) a i else -1000
def v_meets (mm : Nat → Int) (k l : Int) : Int := if ((0 ≤ k ∧ k ≤ mm 0 - 1) ∧ 0 ≤ l ∧ l ≤ mm 1 - 1) then qMeets (fun x => mm (610 + 89 * k.toNat + x)) (fun x => mm (788 + 26 * l.toNat + x)) else -1
def v_force (mm : Nat → Int) (k a m n x : Int) : Int := if (0 ≤ k ∧ k ≤ mm 0 - 1) then qForce (fun x => mm (610 + 89 * k.toNat + x)) a m n x else -2
def v_told (mm : Nat → Int) (k a i : Int) : Int := if (0 ≤ k ∧ k ≤ mm 2 - 1) then qTold (fun x => mm (840 + 14 * k.toNat + x)) a i else -2
def v_bribes (mm : Nat → Int) (k l t x : Int) : Int := if (((0 ≤ k ∧ k ≤ mm 0 - 1) ∧ 0 ≤ l ∧ l ≤ mm 1 - 1) ∧ 0 ≤ t ∧ t ≤ mm 2 - 1) then qBribes (fun x => mm (610 + 89 * k.toNat + x)) (fun x => mm (788 + 26 * l.toNat + x)) (fun x => mm (840 + 14 * t.toNat + x)) x else -1
def v_meant (mm : Nat → Int) (k l t n x : Int) : Int := if (((0 ≤ k ∧ k ≤ mm 0 - 1) ∧ 0 ≤ l ∧ l ≤ mm 1 - 1) ∧ 0 ≤ t ∧ t ≤ mm 2 - 1) then qMeant (fun x => mm (610 + 89 * k.toNat + x)) (fun x => mm (788 + 26 * l.toNat + x)) (fun x => mm (840 + 14 * t.toNat + x)) n x else -2
def v_truce (mm : Nat → Int) (k p q x : Int) : Int := if (0 ≤ k ∧ k ≤ mm 0 - 1) then qTruce (fun x => mm (610 + 89 * k.toNat + x)) p q x else -1
def v_far (mm : Nat → Int) (k a i q : Int) : Int := if (0 ≤ k ∧ k ≤ mm 0 - 1) then qFar (fun x => mm (610 + 89 * k.toNat + x)) a i q else -1
def v_codes (mm : Nat → Int) (k a x : Int) : Int := if (0 ≤ k ∧ k ≤ mm 0 - 1) then qCodes (fun x => mm (610 + 89 * k.toNat + x)) a x else -2
def v_shared (mm : Nat → Int) (k x : Int) : Int := if (0 ≤ k ∧ k ≤ mm 0 - 1) then qShared (fun x => mm (610 + 89 * k.toNat + x)) x else -1
def v_village (mm : Nat → Int) (k i x : Int) : Int := if (0 ≤ k ∧ k ≤ mm 3 - 1) then qVillage (fun x => mm (868 + 33 * k.toNat + x)) i x else -2
def v_version (mm : Nat → Int) (k l t i x : Int) : Int := if (((((0 ≤ k ∧ k ≤ mm 0 - 1) ∧ 0 ≤ l ∧ l ≤ mm 1 - 1) ∧ 0 ≤ t ∧ t ≤ mm 3 - 1)) ∧ 0 ≤ i ∧ i ≤ (fun x => mm (868 + 33 * t.toNat + x)) 0 - 1) then qVersion (VlS (fun x => mm (610 + 89 * k.toNat + x)) (fun x => mm (788 + 26 * l.toNat + x)) (fun x => mm (868 + 33 * t.toNat + x)) i.toNat) x else -1
def v_tale (mm : Nat → Int) (k l t i x : Int) : Int := if (((((0 ≤ k ∧ k ≤ mm 0 - 1) ∧ 0 ≤ l ∧ l ≤ mm 1 - 1) ∧ 0 ≤ t ∧ t ≤ mm 3 - 1)) ∧ 0 ≤ i ∧ i ≤ (fun x => mm (868 + 33 * t.toNat + x)) 0 - 1) then qTale (VlS (fun x => mm (610 + 89 * k.toNat + x)) (fun x => mm (788 + 26 * l.toNat + x)) (fun x => mm (868 + 33 * t.toNat + x))) (srS (fun x => mm (610 + 89 * k.toNat + x)) (fun x => mm (788 + 26 * l.toNat + x))) ((fun x => mm (868 + 33 * t.toNat + x)) 0).toNat i.toNat x else -1
def v_drawn (mm : Nat → Int) (k l x m y : Int) : Int := if ((0 ≤ k ∧ k ≤ mm 0 - 1) ∧ 0 ≤ l ∧ l ≤ mm 1 - 1) then qDrawn (fun x => mm (610 + 89 * k.toNat + x)) (fun x => mm (788 + 26 * l.toNat + x)) x m y else -1
def v_common (mm : Nat → Int) (k l x : Int) : Int := if ((0 ≤ k ∧ k ≤ mm 0 - 1) ∧ 0 ≤ l ∧ l ≤ mm 1 - 1) then qCommon (fun x => mm (610 + 89 * k.toNat + x)) (fun x => mm (788 + 26 * l.toNat + x)) x else -1
def v_readings (mm : Nat → Int) (k l a x : Int) : Int := if ((0 ≤ k ∧ k ≤ mm 0 - 1) ∧ 0 ≤ l ∧ l ≤ mm 1 - 1) then qReadings (fun x => mm (610 + 89 * k.toNat + x)) (fun x => mm (788 + 26 * l.toNat + x)) a x else -2
def v_fix (mm : Nat → Int) (k l a m x : Int) : Int := if ((0 ≤ k ∧ k ≤ mm 0 - 1) ∧ 0 ≤ l ∧ l ≤ mm 1 - 1) then qFix (fun x => mm (610 + 89 * k.toNat + x)) (fun x => mm (788 + 26 * l.toNat + x)) a m x else -1
theorem lc_war {k : Nat} (h : IV d) (hL : G.2.2.1 ≤ 3072) (hk : k + 6 ≤ G.2.2.1) (kk : ∀ d2, IV d2 → tB G mL_law 1718 (lwL k) [] d2 lwR) : tB G mL_law 314 (lwL k) [] d lwR := by
  refine T_aload_n dL_law_314 rfl ?_
  refine T_aload_s dL_law_315 rfl ?_
  refine T_iload_n dL_law_316 rfl ?_
  refine T_iconst dL_law_317 (by decide) ?_
  refine T_add dL_law_318 (by omega) ?_
  refine T_sld (j := k + 1) dL_law_319 (by omega) (by omega) ?_
  refine T_aload_s dL_law_320 rfl ?_
  refine T_iload_n dL_law_321 rfl ?_
  refine T_iconst dL_law_322 (by decide) ?_
  refine T_add dL_law_323 (by omega) ?_
  refine T_sld (j := k + 2) dL_law_324 (by omega) (by omega) ?_
  refine T_callV dL_law_325 lL_32 (As := [_, _]) (rest := _) rfl rfl k1 (by decide) (Nat.le_of_ble_eq_true rfl) (Nat.le_of_ble_eq_true rfl) (t_C_war h.ms h.cs) ?_
  rintro _ d1 ⟨rfl, f1⟩
  have hI1 := IV_cf h f1
  have h272 : d1 272 = d 272 := funext fun j => f1 _ _ (by omega)
  refine T_aload_n dL_law_328 rfl ?_
  refine T_aload_s dL_law_329 rfl ?_
  refine T_iload_n dL_law_330 rfl ?_
  refine T_iconst dL_law_331 (by decide) ?_
  refine T_add dL_law_332 (by omega) ?_
  refine T_sld (j := k + 1) dL_law_333 (by omega) (by omega) ?_
  refine T_aload_s dL_law_334 rfl ?_
  refine T_iload_n dL_law_335 rfl ?_
  refine T_iconst dL_law_336 (by decide) ?_
  refine T_add dL_law_337 (by omega) ?_
  refine T_sld (j := k + 2) dL_law_338 (by omega) (by omega) ?_
  refine T_callV dL_law_339 lL_35 (As := [_, _]) (rest := _) rfl rfl k271 (by decide) (Nat.le_of_ble_eq_true rfl) (Nat.le_of_ble_eq_true rfl) (t_X12_war hI1.ms) ?_
  rintro _ d2 ⟨rfl, f2⟩
  have hI2 := IV_ag hI1 f2 (by decide)
  have hv : v_war (d1 272) (sc G (k + 1)) (sc G (k + 2)) = v_war (d 272) (sc G (k + 1)) (sc G (k + 2)) := by rw [h272]
  refine T_icmp_eq (tgt := 1718) dL_law_342 (by decide) (fun c342 => ?_) (fun c342 => absurd hv.symm c342)
  exact kk d2 hI2

theorem lc_order {k : Nat} (h : IV d) (hL : G.2.2.1 ≤ 3072) (hk : k + 6 ≤ G.2.2.1) (kk : ∀ d2, IV d2 → tB G mL_law 1718 (lwL k) [] d2 lwR) : tB G mL_law 347 (lwL k) [] d lwR := by
  refine T_aload_n dL_law_347 rfl ?_
  refine T_aload_s dL_law_348 rfl ?_
  refine T_iload_n dL_law_349 rfl ?_
  refine T_iconst dL_law_350 (by decide) ?_
  refine T_add dL_law_351 (by omega) ?_
  refine T_sld (j := k + 1) dL_law_352 (by omega) (by omega) ?_
  refine T_aload_s dL_law_353 rfl ?_
  refine T_iload_n dL_law_354 rfl ?_
  refine T_iconst dL_law_355 (by decide) ?_
  refine T_add dL_law_356 (by omega) ?_
  refine T_sld (j := k + 2) dL_law_357 (by omega) (by omega) ?_
  refine T_aload_s dL_law_358 rfl ?_
  refine T_iload_n dL_law_359 rfl ?_
  refine T_iconst dL_law_360 (by decide) ?_
  refine T_add dL_law_361 (by omega) ?_
  refine T_sld (j := k + 3) dL_law_362 (by omega) (by omega) ?_
  refine T_aload_s dL_law_363 rfl ?_
  refine T_iload_n dL_law_364 rfl ?_
  refine T_iconst dL_law_365 (by decide) ?_
  refine T_add dL_law_366 (by omega) ?_
  refine T_sld (j := k + 4) dL_law_367 (by omega) (by omega) ?_
  refine T_callV dL_law_368 lL_36 (As := [_, _, _, _]) (rest := _) rfl rfl k1 (by decide) (Nat.le_of_ble_eq_true rfl) (Nat.le_of_ble_eq_true rfl) (t_C_order h.ms h.cs) ?_
  rintro _ d1 ⟨rfl, f1⟩
  have hI1 := IV_cf h f1
  have h272 : d1 272 = d 272 := funext fun j => f1 _ _ (by omega)
  refine T_aload_n dL_law_371 rfl ?_
  refine T_aload_s dL_law_372 rfl ?_
  refine T_iload_n dL_law_373 rfl ?_
  refine T_iconst dL_law_374 (by decide) ?_
  refine T_add dL_law_375 (by omega) ?_
  refine T_sld (j := k + 1) dL_law_376 (by omega) (by omega) ?_
  refine T_aload_s dL_law_377 rfl ?_
  refine T_iload_n dL_law_378 rfl ?_
  refine T_iconst dL_law_379 (by decide) ?_
  refine T_add dL_law_380 (by omega) ?_
  refine T_sld (j := k + 2) dL_law_381 (by omega) (by omega) ?_
  refine T_aload_s dL_law_382 rfl ?_
  refine T_iload_n dL_law_383 rfl ?_
  refine T_iconst dL_law_384 (by decide) ?_
  refine T_add dL_law_385 (by omega) ?_
  refine T_sld (j := k + 3) dL_law_386 (by omega) (by omega) ?_
  refine T_aload_s dL_law_387 rfl ?_
  refine T_iload_n dL_law_388 rfl ?_
  refine T_iconst dL_law_389 (by decide) ?_
  refine T_add dL_law_390 (by omega) ?_
  refine T_sld (j := k + 4) dL_law_391 (by omega) (by omega) ?_
  refine T_callV dL_law_392 lL_40 (As := [_, _, _, _]) (rest := _) rfl rfl k271 (by decide) (Nat.le_of_ble_eq_true rfl) (Nat.le_of_ble_eq_true rfl) (t_X12_order hI1.ms) ?_
  rintro _ d2 ⟨rfl, f2⟩
  have hI2 := IV_ag hI1 f2 (by decide)
  have hv : v_order (d1 272) (sc G (k + 1)) (sc G (k + 2)) (sc G (k + 3)) (sc G (k + 4)) = v_order (d 272) (sc G (k + 1)) (sc G (k + 2)) (sc G (k + 3)) (sc G (k + 4)) := by rw [h272]
  refine T_icmp_eq (tgt := 1718) dL_law_395 (by decide) (fun c395 => ?_) (fun c395 => absurd hv.symm c395)
  exact kk d2 hI2

theorem lc_given {k : Nat} (h : IV d) (hL : G.2.2.1 ≤ 3072) (hk : k + 6 ≤ G.2.2.1) (kk : ∀ d2, IV d2 → tB G mL_law 1718 (lwL k) [] d2 lwR) : tB G mL_law 400 (lwL k) [] d lwR := by
  refine T_aload_n dL_law_400 rfl ?_
  refine T_aload_s dL_law_401 rfl ?_
  refine T_iload_n dL_law_402 rfl ?_
  refine T_iconst dL_law_403 (by decide) ?_
  refine T_add dL_law_404 (by omega) ?_
  refine T_sld (j := k + 1) dL_law_405 (by omega) (by omega) ?_
  refine T_aload_s dL_law_406 rfl ?_
  refine T_iload_n dL_law_407 rfl ?_
  refine T_iconst dL_law_408 (by decide) ?_
  refine T_add dL_law_409 (by omega) ?_
  refine T_sld (j := k + 2) dL_law_410 (by omega) (by omega) ?_
  refine T_aload_s dL_law_411 rfl ?_
  refine T_iload_n dL_law_412 rfl ?_
  refine T_iconst dL_law_413 (by decide) ?_
  refine T_add dL_law_414 (by omega) ?_
  refine T_sld (j := k + 3) dL_law_415 (by omega) (by omega) ?_
  refine T_callV dL_law_416 lL_41 (As := [_, _, _]) (rest := _) rfl rfl k1 (by decide) (Nat.le_of_ble_eq_true rfl) (Nat.le_of_ble_eq_true rfl) (t_C_given h.ms h.cs) ?_
  rintro _ d1 ⟨rfl, f1⟩
  have hI1 := IV_cf h f1
  have h272 : d1 272 = d 272 := funext fun j => f1 _ _ (by omega)
  refine T_aload_n dL_law_419 rfl ?_
  refine T_aload_s dL_law_420 rfl ?_
  refine T_iload_n dL_law_421 rfl ?_
  refine T_iconst dL_law_422 (by decide) ?_
  refine T_add dL_law_423 (by omega) ?_
  refine T_sld (j := k + 1) dL_law_424 (by omega) (by omega) ?_
  refine T_aload_s dL_law_425 rfl ?_
  refine T_iload_n dL_law_426 rfl ?_
  refine T_iconst dL_law_427 (by decide) ?_
  refine T_add dL_law_428 (by omega) ?_
  refine T_sld (j := k + 2) dL_law_429 (by omega) (by omega) ?_
  refine T_aload_s dL_law_430 rfl ?_
  refine T_iload_n dL_law_431 rfl ?_
  refine T_iconst dL_law_432 (by decide) ?_
  refine T_add dL_law_433 (by omega) ?_
  refine T_sld (j := k + 3) dL_law_434 (by omega) (by omega) ?_
  refine T_callV dL_law_435 lL_45 (As := [_, _, _]) (rest := _) rfl rfl k271 (by decide) (Nat.le_of_ble_eq_true rfl) (Nat.le_of_ble_eq_true rfl) (t_X12_given hI1.ms) ?_
  rintro _ d2 ⟨rfl, f2⟩
  have hI2 := IV_ag hI1 f2 (by decide)
  have hv : v_given (d1 272) (sc G (k + 1)) (sc G (k + 2)) (sc G (k + 3)) = v_given (d 272) (sc G (k + 1)) (sc G (k + 2)) (sc G (k + 3)) := by rw [h272]
  refine T_icmp_eq (tgt := 1718) dL_law_438 (by decide) (fun c438 => ?_) (fun c438 => absurd hv.symm c438)
  exact kk d2 hI2

theorem lc_row {k : Nat} (h : IV d) (hL : G.2.2.1 ≤ 3072) (hk : k + 6 ≤ G.2.2.1) (kk : ∀ d2, IV d2 → tB G mL_law 1718 (lwL k) [] d2 lwR) : tB G mL_law 443 (lwL k) [] d lwR := by
  refine T_aload_n dL_law_443 rfl ?_
  refine T_aload_s dL_law_444 rfl ?_
  refine T_iload_n dL_law_445 rfl ?_
  refine T_iconst dL_law_446 (by decide) ?_
  refine T_add dL_law_447 (by omega) ?_
  refine T_sld (j := k + 1) dL_law_448 (by omega) (by omega) ?_
  refine T_aload_s dL_law_449 rfl ?_
  refine T_iload_n dL_law_450 rfl ?_
  refine T_iconst dL_law_451 (by decide) ?_
  refine T_add dL_law_452 (by omega) ?_
  refine T_sld (j := k + 2) dL_law_453 (by omega) (by omega) ?_
  refine T_aload_s dL_law_454 rfl ?_
  refine T_iload_n dL_law_455 rfl ?_
  refine T_iconst dL_law_456 (by decide) ?_
  refine T_add dL_law_457 (by omega) ?_
  refine T_sld (j := k + 3) dL_law_458 (by omega) (by omega) ?_
  refine T_aload_s dL_law_459 rfl ?_
  refine T_iload_n dL_law_460 rfl ?_
  refine T_iconst dL_law_461 (by decide) ?_
  refine T_add dL_law_462 (by omega) ?_
  refine T_sld (j := k + 4) dL_law_463 (by omega) (by omega) ?_
  refine T_callV dL_law_464 lL_46 (As := [_, _, _, _]) (rest := _) rfl rfl k1 (by decide) (Nat.le_of_ble_eq_true rfl) (Nat.le_of_ble_eq_true rfl) (t_C_row h.ms h.cs) ?_
  rintro _ d1 ⟨rfl, f1⟩
  have hI1 := IV_cf h f1
  have h272 : d1 272 = d 272 := funext fun j => f1 _ _ (by omega)
  refine T_aload_n dL_law_467 rfl ?_
  refine T_aload_s dL_law_468 rfl ?_
  refine T_iload_n dL_law_469 rfl ?_
  refine T_iconst dL_law_470 (by decide) ?_
  refine T_add dL_law_471 (by omega) ?_
  refine T_sld (j := k + 1) dL_law_472 (by omega) (by omega) ?_
  refine T_aload_s dL_law_473 rfl ?_
  refine T_iload_n dL_law_474 rfl ?_
  refine T_iconst dL_law_475 (by decide) ?_
  refine T_add dL_law_476 (by omega) ?_
  refine T_sld (j := k + 2) dL_law_477 (by omega) (by omega) ?_
  refine T_aload_s dL_law_478 rfl ?_
  refine T_iload_n dL_law_479 rfl ?_
  refine T_iconst dL_law_480 (by decide) ?_
  refine T_add dL_law_481 (by omega) ?_
  refine T_sld (j := k + 3) dL_law_482 (by omega) (by omega) ?_
  refine T_aload_s dL_law_483 rfl ?_
  refine T_iload_n dL_law_484 rfl ?_
  refine T_iconst dL_law_485 (by decide) ?_
  refine T_add dL_law_486 (by omega) ?_
  refine T_sld (j := k + 4) dL_law_487 (by omega) (by omega) ?_
  refine T_callV dL_law_488 lL_49 (As := [_, _, _, _]) (rest := _) rfl rfl k271 (by decide) (Nat.le_of_ble_eq_true rfl) (Nat.le_of_ble_eq_true rfl) (t_X12_row hI1.ms) ?_
  rintro _ d2 ⟨rfl, f2⟩
  have hI2 := IV_ag hI1 f2 (by decide)
  have hv : v_row (d1 272) (sc G (k + 1)) (sc G (k + 2)) (sc G (k + 3)) (sc G (k + 4)) = v_row (d 272) (sc G (k + 1)) (sc G (k + 2)) (sc G (k + 3)) (sc G (k + 4)) := by rw [h272]
  refine T_icmp_eq (tgt := 1718) dL_law_491 (by decide) (fun c491 => ?_) (fun c491 => absurd hv.symm c491)
  exact kk d2 hI2

theorem lc_heard {k : Nat} (h : IV d) (hL : G.2.2.1 ≤ 3072) (hk : k + 6 ≤ G.2.2.1) (kk : ∀ d2, IV d2 → tB G mL_law 1718 (lwL k) [] d2 lwR) : tB G mL_law 496 (lwL k) [] d lwR := by
  refine T_aload_n dL_law_496 rfl ?_
  refine T_aload_s dL_law_497 rfl ?_
  refine T_iload_n dL_law_498 rfl ?_
  refine T_iconst dL_law_499 (by decide) ?_
  refine T_add dL_law_500 (by omega) ?_
  refine T_sld (j := k + 1) dL_law_501 (by omega) (by omega) ?_
  refine T_aload_s dL_law_502 rfl ?_
  refine T_iload_n dL_law_503 rfl ?_
  refine T_iconst dL_law_504 (by decide) ?_
  refine T_add dL_law_505 (by omega) ?_
  refine T_sld (j := k + 2) dL_law_506 (by omega) (by omega) ?_
  refine T_aload_s dL_law_507 rfl ?_
  refine T_iload_n dL_law_508 rfl ?_
  refine T_iconst dL_law_509 (by decide) ?_
  refine T_add dL_law_510 (by omega) ?_
  refine T_sld (j := k + 3) dL_law_511 (by omega) (by omega) ?_
  refine T_aload_s dL_law_512 rfl ?_
  refine T_iload_n dL_law_513 rfl ?_
  refine T_iconst dL_law_514 (by decide) ?_
  refine T_add dL_law_515 (by omega) ?_
  refine T_sld (j := k + 4) dL_law_516 (by omega) (by omega) ?_
  refine T_callV dL_law_517 lL_50 (As := [_, _, _, _]) (rest := _) rfl rfl k1 (by decide) (Nat.le_of_ble_eq_true rfl) (Nat.le_of_ble_eq_true rfl) (t_C_heard h.ms h.cs) ?_
  rintro _ d1 ⟨rfl, f1⟩
  have hI1 := IV_cf h f1
  have h272 : d1 272 = d 272 := funext fun j => f1 _ _ (by omega)
  refine T_aload_n dL_law_520 rfl ?_
  refine T_aload_s dL_law_521 rfl ?_
  refine T_iload_n dL_law_522 rfl ?_
  refine T_iconst dL_law_523 (by decide) ?_
  refine T_add dL_law_524 (by omega) ?_
  refine T_sld (j := k + 1) dL_law_525 (by omega) (by omega) ?_
  refine T_aload_s dL_law_526 rfl ?_
  refine T_iload_n dL_law_527 rfl ?_
  refine T_iconst dL_law_528 (by decide) ?_
  refine T_add dL_law_529 (by omega) ?_
  refine T_sld (j := k + 2) dL_law_530 (by omega) (by omega) ?_
  refine T_aload_s dL_law_531 rfl ?_
  refine T_iload_n dL_law_532 rfl ?_
  refine T_iconst dL_law_533 (by decide) ?_
  refine T_add dL_law_534 (by omega) ?_
  refine T_sld (j := k + 3) dL_law_535 (by omega) (by omega) ?_
  refine T_aload_s dL_law_536 rfl ?_
  refine T_iload_n dL_law_537 rfl ?_
  refine T_iconst dL_law_538 (by decide) ?_
  refine T_add dL_law_539 (by omega) ?_
  refine T_sld (j := k + 4) dL_law_540 (by omega) (by omega) ?_
  refine T_callV dL_law_541 lL_53 (As := [_, _, _, _]) (rest := _) rfl rfl k271 (by decide) (Nat.le_of_ble_eq_true rfl) (Nat.le_of_ble_eq_true rfl) (t_X12_heard hI1.ms) ?_
  rintro _ d2 ⟨rfl, f2⟩
  have hI2 := IV_ag hI1 f2 (by decide)
  have hv : v_heard (d1 272) (sc G (k + 1)) (sc G (k + 2)) (sc G (k + 3)) (sc G (k + 4)) = v_heard (d 272) (sc G (k + 1)) (sc G (k + 2)) (sc G (k + 3)) (sc G (k + 4)) := by rw [h272]
  refine T_icmp_eq (tgt := 1718) dL_law_544 (by decide) (fun c544 => ?_) (fun c544 => absurd hv.symm c544)
  exact kk d2 hI2

theorem lc_made {k : Nat} (h : IV d) (hL : G.2.2.1 ≤ 3072) (hk : k + 6 ≤ G.2.2.1) (kk : ∀ d2, IV d2 → tB G mL_law 1718 (lwL k) [] d2 lwR) : tB G mL_law 549 (lwL k) [] d lwR := by
  refine T_aload_n dL_law_549 rfl ?_
  refine T_aload_s dL_law_550 rfl ?_
  refine T_iload_n dL_law_551 rfl ?_
  refine T_iconst dL_law_552 (by decide) ?_
  refine T_add dL_law_553 (by omega) ?_
  refine T_sld (j := k + 1) dL_law_554 (by omega) (by omega) ?_
  refine T_aload_s dL_law_555 rfl ?_
  refine T_iload_n dL_law_556 rfl ?_
  refine T_iconst dL_law_557 (by decide) ?_
  refine T_add dL_law_558 (by omega) ?_
  refine T_sld (j := k + 2) dL_law_559 (by omega) (by omega) ?_
  refine T_aload_s dL_law_560 rfl ?_
  refine T_iload_n dL_law_561 rfl ?_
  refine T_iconst dL_law_562 (by decide) ?_
  refine T_add dL_law_563 (by omega) ?_
  refine T_sld (j := k + 3) dL_law_564 (by omega) (by omega) ?_
  refine T_aload_s dL_law_565 rfl ?_
  refine T_iload_n dL_law_566 rfl ?_
  refine T_iconst dL_law_567 (by decide) ?_
  refine T_add dL_law_568 (by omega) ?_
  refine T_sld (j := k + 4) dL_law_569 (by omega) (by omega) ?_
  refine T_aload_s dL_law_570 rfl ?_
  refine T_iload_n dL_law_571 rfl ?_
  refine T_iconst dL_law_572 (by decide) ?_
  refine T_add dL_law_573 (by omega) ?_
  refine T_sld (j := k + 5) dL_law_574 (by omega) (by omega) ?_
  refine T_callV dL_law_575 lL_54 (As := [_, _, _, _, _]) (rest := _) rfl rfl k1 (by decide) (Nat.le_of_ble_eq_true rfl) (Nat.le_of_ble_eq_true rfl) (t_C_made h.ms h.cs) ?_
  rintro _ d1 ⟨rfl, f1⟩
  have hI1 := IV_cf h f1
  have h272 : d1 272 = d 272 := funext fun j => f1 _ _ (by omega)
  refine T_aload_n dL_law_578 rfl ?_
  refine T_aload_s dL_law_579 rfl ?_
  refine T_iload_n dL_law_580 rfl ?_
  refine T_iconst dL_law_581 (by decide) ?_
  refine T_add dL_law_582 (by omega) ?_
  refine T_sld (j := k + 1) dL_law_583 (by omega) (by omega) ?_
  refine T_aload_s dL_law_584 rfl ?_
  refine T_iload_n dL_law_585 rfl ?_
  refine T_iconst dL_law_586 (by decide) ?_
  refine T_add dL_law_587 (by omega) ?_
  refine T_sld (j := k + 2) dL_law_588 (by omega) (by omega) ?_
  refine T_aload_s dL_law_589 rfl ?_
  refine T_iload_n dL_law_590 rfl ?_
  refine T_iconst dL_law_591 (by decide) ?_
  refine T_add dL_law_592 (by omega) ?_
  refine T_sld (j := k + 3) dL_law_593 (by omega) (by omega) ?_
  refine T_aload_s dL_law_594 rfl ?_
  refine T_iload_n dL_law_595 rfl ?_
  refine T_iconst dL_law_596 (by decide) ?_
  refine T_add dL_law_597 (by omega) ?_
  refine T_sld (j := k + 4) dL_law_598 (by omega) (by omega) ?_
  refine T_aload_s dL_law_599 rfl ?_
  refine T_iload_n dL_law_600 rfl ?_
  refine T_iconst dL_law_601 (by decide) ?_
  refine T_add dL_law_602 (by omega) ?_
  refine T_sld (j := k + 5) dL_law_603 (by omega) (by omega) ?_
  refine T_callV dL_law_604 lL_57 (As := [_, _, _, _, _]) (rest := _) rfl rfl k271 (by decide) (Nat.le_of_ble_eq_true rfl) (Nat.le_of_ble_eq_true rfl) (t_X12_made hI1.ms) ?_
  rintro _ d2 ⟨rfl, f2⟩
  have hI2 := IV_ag hI1 f2 (by decide)
  have hv : v_made (d1 272) (sc G (k + 1)) (sc G (k + 2)) (sc G (k + 3)) (sc G (k + 4)) (sc G (k + 5)) = v_made (d 272) (sc G (k + 1)) (sc G (k + 2)) (sc G (k + 3)) (sc G (k + 4)) (sc G (k + 5)) := by rw [h272]
  refine T_icmp_eq (tgt := 1718) dL_law_607 (by decide) (fun c607 => ?_) (fun c607 => absurd hv.symm c607)
  exact kk d2 hI2

theorem lc_march {k : Nat} (h : IV d) (hL : G.2.2.1 ≤ 3072) (hk : k + 6 ≤ G.2.2.1) (kk : ∀ d2, IV d2 → tB G mL_law 1718 (lwL k) [] d2 lwR) : tB G mL_law 612 (lwL k) [] d lwR := by
  refine T_aload_n dL_law_612 rfl ?_
  refine T_aload_s dL_law_613 rfl ?_
  refine T_iload_n dL_law_614 rfl ?_
  refine T_iconst dL_law_615 (by decide) ?_
  refine T_add dL_law_616 (by omega) ?_
  refine T_sld (j := k + 1) dL_law_617 (by omega) (by omega) ?_
  refine T_aload_s dL_law_618 rfl ?_
  refine T_iload_n dL_law_619 rfl ?_
  refine T_iconst dL_law_620 (by decide) ?_
  refine T_add dL_law_621 (by omega) ?_
  refine T_sld (j := k + 2) dL_law_622 (by omega) (by omega) ?_
  refine T_aload_s dL_law_623 rfl ?_
  refine T_iload_n dL_law_624 rfl ?_
  refine T_iconst dL_law_625 (by decide) ?_
  refine T_add dL_law_626 (by omega) ?_
  refine T_sld (j := k + 3) dL_law_627 (by omega) (by omega) ?_
  refine T_aload_s dL_law_628 rfl ?_
  refine T_iload_n dL_law_629 rfl ?_
  refine T_iconst dL_law_630 (by decide) ?_
  refine T_add dL_law_631 (by omega) ?_
  refine T_sld (j := k + 4) dL_law_632 (by omega) (by omega) ?_
  refine T_callV dL_law_633 lL_58 (As := [_, _, _, _]) (rest := _) rfl rfl k1 (by decide) (Nat.le_of_ble_eq_true rfl) (Nat.le_of_ble_eq_true rfl) (t_C_march h.ms h.cs) ?_
  rintro _ d1 ⟨rfl, f1⟩
  have hI1 := IV_cf h f1
  have h272 : d1 272 = d 272 := funext fun j => f1 _ _ (by omega)
  refine T_aload_n dL_law_636 rfl ?_
  refine T_aload_s dL_law_637 rfl ?_
  refine T_iload_n dL_law_638 rfl ?_
  refine T_iconst dL_law_639 (by decide) ?_
  refine T_add dL_law_640 (by omega) ?_
  refine T_sld (j := k + 1) dL_law_641 (by omega) (by omega) ?_
  refine T_aload_s dL_law_642 rfl ?_
  refine T_iload_n dL_law_643 rfl ?_
  refine T_iconst dL_law_644 (by decide) ?_
  refine T_add dL_law_645 (by omega) ?_
  refine T_sld (j := k + 2) dL_law_646 (by omega) (by omega) ?_
  refine T_aload_s dL_law_647 rfl ?_
  refine T_iload_n dL_law_648 rfl ?_
  refine T_iconst dL_law_649 (by decide) ?_
  refine T_add dL_law_650 (by omega) ?_
  refine T_sld (j := k + 3) dL_law_651 (by omega) (by omega) ?_
  refine T_aload_s dL_law_652 rfl ?_
  refine T_iload_n dL_law_653 rfl ?_
  refine T_iconst dL_law_654 (by decide) ?_
  refine T_add dL_law_655 (by omega) ?_
  refine T_sld (j := k + 4) dL_law_656 (by omega) (by omega) ?_
  refine T_callV dL_law_657 lL_61 (As := [_, _, _, _]) (rest := _) rfl rfl k271 (by decide) (Nat.le_of_ble_eq_true rfl) (Nat.le_of_ble_eq_true rfl) (t_X12_march hI1.ms) ?_
  rintro _ d2 ⟨rfl, f2⟩
  have hI2 := IV_ag hI1 f2 (by decide)
  have hv : v_march (d1 272) (sc G (k + 1)) (sc G (k + 2)) (sc G (k + 3)) (sc G (k + 4)) = v_march (d 272) (sc G (k + 1)) (sc G (k + 2)) (sc G (k + 3)) (sc G (k + 4)) := by rw [h272]
  refine T_icmp_eq (tgt := 1718) dL_law_660 (by decide) (fun c660 => ?_) (fun c660 => absurd hv.symm c660)
  exact kk d2 hI2

theorem lc_meets {k : Nat} (h : IV d) (hL : G.2.2.1 ≤ 3072) (hk : k + 6 ≤ G.2.2.1) (kk : ∀ d2, IV d2 → tB G mL_law 1718 (lwL k) [] d2 lwR) : tB G mL_law 665 (lwL k) [] d lwR := by
  refine T_aload_n dL_law_665 rfl ?_
  refine T_aload_s dL_law_666 rfl ?_
  refine T_iload_n dL_law_667 rfl ?_
  refine T_iconst dL_law_668 (by decide) ?_
  refine T_add dL_law_669 (by omega) ?_
  refine T_sld (j := k + 1) dL_law_670 (by omega) (by omega) ?_
  refine T_aload_s dL_law_671 rfl ?_
  refine T_iload_n dL_law_672 rfl ?_
  refine T_iconst dL_law_673 (by decide) ?_
  refine T_add dL_law_674 (by omega) ?_
  refine T_sld (j := k + 2) dL_law_675 (by omega) (by omega) ?_
  refine T_callV dL_law_676 lL_62 (As := [_, _]) (rest := _) rfl rfl k1 (by decide) (Nat.le_of_ble_eq_true rfl) (Nat.le_of_ble_eq_true rfl) (t_C_meets h.ms h.cs) ?_
  rintro _ d1 ⟨rfl, f1⟩
  have hI1 := IV_cf h f1
  have h272 : d1 272 = d 272 := funext fun j => f1 _ _ (by omega)
  refine T_aload_n dL_law_679 rfl ?_
  refine T_aload_s dL_law_680 rfl ?_
  refine T_iload_n dL_law_681 rfl ?_
  refine T_iconst dL_law_682 (by decide) ?_
  refine T_add dL_law_683 (by omega) ?_
  refine T_sld (j := k + 1) dL_law_684 (by omega) (by omega) ?_
  refine T_aload_s dL_law_685 rfl ?_
  refine T_iload_n dL_law_686 rfl ?_
  refine T_iconst dL_law_687 (by decide) ?_
  refine T_add dL_law_688 (by omega) ?_
  refine T_sld (j := k + 2) dL_law_689 (by omega) (by omega) ?_
  refine T_callV dL_law_690 lL_65 (As := [_, _]) (rest := _) rfl rfl k271 (by decide) (Nat.le_of_ble_eq_true rfl) (Nat.le_of_ble_eq_true rfl) (t_X12_meets hI1.ms) ?_
  rintro _ d2 ⟨rfl, f2⟩
  have hI2 := IV_ag hI1 f2 (by decide)
  have hv : v_meets (d1 272) (sc G (k + 1)) (sc G (k + 2)) = v_meets (d 272) (sc G (k + 1)) (sc G (k + 2)) := by rw [h272]
  refine T_icmp_eq (tgt := 1718) dL_law_693 (by decide) (fun c693 => ?_) (fun c693 => absurd hv.symm c693)
  exact kk d2 hI2

theorem lc_force {k : Nat} (h : IV d) (hL : G.2.2.1 ≤ 3072) (hk : k + 6 ≤ G.2.2.1) (kk : ∀ d2, IV d2 → tB G mL_law 1718 (lwL k) [] d2 lwR) : tB G mL_law 698 (lwL k) [] d lwR := by
  by_cases hb : (sc G (k + 5)) = 0
  ·
    refine T_aload_n dL_law_698 rfl ?_
    refine T_aload_s dL_law_699 rfl ?_
    refine T_iload_n dL_law_700 rfl ?_
    refine T_iconst dL_law_701 (by decide) ?_
    refine T_add dL_law_702 (by omega) ?_
    refine T_sld (j := k + 1) dL_law_703 (by omega) (by omega) ?_
    refine T_aload_s dL_law_704 rfl ?_
    refine T_iload_n dL_law_705 rfl ?_
    refine T_iconst dL_law_706 (by decide) ?_
    refine T_add dL_law_707 (by omega) ?_
    refine T_sld (j := k + 2) dL_law_708 (by omega) (by omega) ?_
    refine T_aload_s dL_law_709 rfl ?_
    refine T_iload_n dL_law_710 rfl ?_
    refine T_iconst dL_law_711 (by decide) ?_
    refine T_add dL_law_712 (by omega) ?_
    refine T_sld (j := k + 3) dL_law_713 (by omega) (by omega) ?_
    refine T_aload_s dL_law_714 rfl ?_
    refine T_iload_n dL_law_715 rfl ?_
    refine T_iconst dL_law_716 (by decide) ?_
    refine T_add dL_law_717 (by omega) ?_
    refine T_sld (j := k + 4) dL_law_718 (by omega) (by omega) ?_
    refine T_aload_s dL_law_719 rfl ?_
    refine T_iload_n dL_law_720 rfl ?_
    refine T_iconst dL_law_721 (by decide) ?_
    refine T_add dL_law_722 (by omega) ?_
    refine T_sld (j := k + 5) dL_law_723 (by omega) (by omega) ?_
    refine T_if_eq (tgt := 731) dL_law_724 (by decide) (fun c724 => ?_) (fun c724 => absurd hb c724)
    refine T_iconst dL_law_731 (by decide) ?_
    refine T_callV dL_law_732 lL_66 (As := [_, _, _, _, _]) (rest := _) rfl rfl k1 (by decide) (Nat.le_of_ble_eq_true rfl) (Nat.le_of_ble_eq_true rfl) (t_C_force h.ms h.cs) ?_
    rintro _ d1 ⟨rfl, f1⟩
    have hI1 := IV_cf h f1
    have h272 : d1 272 = d 272 := funext fun j => f1 _ _ (by omega)
    refine T_aload_n dL_law_735 rfl ?_
    refine T_aload_s dL_law_736 rfl ?_
    refine T_iload_n dL_law_737 rfl ?_
    refine T_iconst dL_law_738 (by decide) ?_
    refine T_add dL_law_739 (by omega) ?_
    refine T_sld (j := k + 1) dL_law_740 (by omega) (by omega) ?_
    refine T_aload_s dL_law_741 rfl ?_
    refine T_iload_n dL_law_742 rfl ?_
    refine T_iconst dL_law_743 (by decide) ?_
    refine T_add dL_law_744 (by omega) ?_
    refine T_sld (j := k + 2) dL_law_745 (by omega) (by omega) ?_
    refine T_aload_s dL_law_746 rfl ?_
    refine T_iload_n dL_law_747 rfl ?_
    refine T_iconst dL_law_748 (by decide) ?_
    refine T_add dL_law_749 (by omega) ?_
    refine T_sld (j := k + 3) dL_law_750 (by omega) (by omega) ?_
    refine T_aload_s dL_law_751 rfl ?_
    refine T_iload_n dL_law_752 rfl ?_
    refine T_iconst dL_law_753 (by decide) ?_
    refine T_add dL_law_754 (by omega) ?_
    refine T_sld (j := k + 4) dL_law_755 (by omega) (by omega) ?_
    refine T_aload_s dL_law_756 rfl ?_
    refine T_iload_n dL_law_757 rfl ?_
    refine T_iconst dL_law_758 (by decide) ?_
    refine T_add dL_law_759 (by omega) ?_
    refine T_sld (j := k + 5) dL_law_760 (by omega) (by omega) ?_
    refine T_if_eq (tgt := 768) dL_law_761 (by decide) (fun c761 => ?_) (fun c761 => absurd hb c761)
    refine T_iconst dL_law_768 (by decide) ?_
    refine T_callV dL_law_769 lL_70 (As := [_, _, _, _, _]) (rest := _) rfl rfl k271 (by decide) (Nat.le_of_ble_eq_true rfl) (Nat.le_of_ble_eq_true rfl) (t_X12_force hI1.ms) ?_
    rintro _ d2 ⟨rfl, f2⟩
    have hI2 := IV_ag hI1 f2 (by decide)
    have hv : v_force (d1 272) (sc G (k + 1)) (sc G (k + 2)) (sc G (k + 3)) (sc G (k + 4)) 0 = v_force (d 272) (sc G (k + 1)) (sc G (k + 2)) (sc G (k + 3)) (sc G (k + 4)) 0 := by rw [h272]
    refine T_icmp_eq (tgt := 1718) dL_law_772 (by decide) (fun c772 => ?_) (fun c772 => absurd hv.symm c772)
    exact kk d2 hI2
  ·
    refine T_aload_n dL_law_698 rfl ?_
    refine T_aload_s dL_law_699 rfl ?_
    refine T_iload_n dL_law_700 rfl ?_
    refine T_iconst dL_law_701 (by decide) ?_
    refine T_add dL_law_702 (by omega) ?_
    refine T_sld (j := k + 1) dL_law_703 (by omega) (by omega) ?_
    refine T_aload_s dL_law_704 rfl ?_
    refine T_iload_n dL_law_705 rfl ?_
    refine T_iconst dL_law_706 (by decide) ?_
    refine T_add dL_law_707 (by omega) ?_
    refine T_sld (j := k + 2) dL_law_708 (by omega) (by omega) ?_
    refine T_aload_s dL_law_709 rfl ?_
    refine T_iload_n dL_law_710 rfl ?_
    refine T_iconst dL_law_711 (by decide) ?_
    refine T_add dL_law_712 (by omega) ?_
    refine T_sld (j := k + 3) dL_law_713 (by omega) (by omega) ?_
    refine T_aload_s dL_law_714 rfl ?_
    refine T_iload_n dL_law_715 rfl ?_
    refine T_iconst dL_law_716 (by decide) ?_
    refine T_add dL_law_717 (by omega) ?_
    refine T_sld (j := k + 4) dL_law_718 (by omega) (by omega) ?_
    refine T_aload_s dL_law_719 rfl ?_
    refine T_iload_n dL_law_720 rfl ?_
    refine T_iconst dL_law_721 (by decide) ?_
    refine T_add dL_law_722 (by omega) ?_
    refine T_sld (j := k + 5) dL_law_723 (by omega) (by omega) ?_
    refine T_if_eq (tgt := 731) dL_law_724 (by decide) (fun c724 => absurd c724 hb) (fun c724 => ?_)
    refine T_iconst dL_law_727 (by decide) ?_
    refine T_goto (tgt := 732) dL_law_728 (by decide) ?_
    refine T_callV dL_law_732 lL_66 (As := [_, _, _, _, _]) (rest := _) rfl rfl k1 (by decide) (Nat.le_of_ble_eq_true rfl) (Nat.le_of_ble_eq_true rfl) (t_C_force h.ms h.cs) ?_
    rintro _ d1 ⟨rfl, f1⟩
    have hI1 := IV_cf h f1
    have h272 : d1 272 = d 272 := funext fun j => f1 _ _ (by omega)
    refine T_aload_n dL_law_735 rfl ?_
    refine T_aload_s dL_law_736 rfl ?_
    refine T_iload_n dL_law_737 rfl ?_
    refine T_iconst dL_law_738 (by decide) ?_
    refine T_add dL_law_739 (by omega) ?_
    refine T_sld (j := k + 1) dL_law_740 (by omega) (by omega) ?_
    refine T_aload_s dL_law_741 rfl ?_
    refine T_iload_n dL_law_742 rfl ?_
    refine T_iconst dL_law_743 (by decide) ?_
    refine T_add dL_law_744 (by omega) ?_
    refine T_sld (j := k + 2) dL_law_745 (by omega) (by omega) ?_
    refine T_aload_s dL_law_746 rfl ?_
    refine T_iload_n dL_law_747 rfl ?_
    refine T_iconst dL_law_748 (by decide) ?_
    refine T_add dL_law_749 (by omega) ?_
    refine T_sld (j := k + 3) dL_law_750 (by omega) (by omega) ?_
    refine T_aload_s dL_law_751 rfl ?_
    refine T_iload_n dL_law_752 rfl ?_
    refine T_iconst dL_law_753 (by decide) ?_
    refine T_add dL_law_754 (by omega) ?_
    refine T_sld (j := k + 4) dL_law_755 (by omega) (by omega) ?_
    refine T_aload_s dL_law_756 rfl ?_
    refine T_iload_n dL_law_757 rfl ?_
    refine T_iconst dL_law_758 (by decide) ?_
    refine T_add dL_law_759 (by omega) ?_
    refine T_sld (j := k + 5) dL_law_760 (by omega) (by omega) ?_
    refine T_if_eq (tgt := 768) dL_law_761 (by decide) (fun c761 => absurd c761 hb) (fun c761 => ?_)
    refine T_iconst dL_law_764 (by decide) ?_
    refine T_goto (tgt := 769) dL_law_765 (by decide) ?_
    refine T_callV dL_law_769 lL_70 (As := [_, _, _, _, _]) (rest := _) rfl rfl k271 (by decide) (Nat.le_of_ble_eq_true rfl) (Nat.le_of_ble_eq_true rfl) (t_X12_force hI1.ms) ?_
    rintro _ d2 ⟨rfl, f2⟩
    have hI2 := IV_ag hI1 f2 (by decide)
    have hv : v_force (d1 272) (sc G (k + 1)) (sc G (k + 2)) (sc G (k + 3)) (sc G (k + 4)) 1 = v_force (d 272) (sc G (k + 1)) (sc G (k + 2)) (sc G (k + 3)) (sc G (k + 4)) 1 := by rw [h272]
    refine T_icmp_eq (tgt := 1718) dL_law_772 (by decide) (fun c772 => ?_) (fun c772 => absurd hv.symm c772)
    exact kk d2 hI2

theorem lc_told {k : Nat} (h : IV d) (hL : G.2.2.1 ≤ 3072) (hk : k + 6 ≤ G.2.2.1) (kk : ∀ d2, IV d2 → tB G mL_law 1718 (lwL k) [] d2 lwR) : tB G mL_law 777 (lwL k) [] d lwR := by
  refine T_aload_n dL_law_777 rfl ?_
  refine T_aload_s dL_law_778 rfl ?_
  refine T_iload_n dL_law_779 rfl ?_
  refine T_iconst dL_law_780 (by decide) ?_
  refine T_add dL_law_781 (by omega) ?_
  refine T_sld (j := k + 1) dL_law_782 (by omega) (by omega) ?_
  refine T_aload_s dL_law_783 rfl ?_
  refine T_iload_n dL_law_784 rfl ?_
  refine T_iconst dL_law_785 (by decide) ?_
  refine T_add dL_law_786 (by omega) ?_
  refine T_sld (j := k + 2) dL_law_787 (by omega) (by omega) ?_
  refine T_aload_s dL_law_788 rfl ?_
  refine T_iload_n dL_law_789 rfl ?_
  refine T_iconst dL_law_790 (by decide) ?_
  refine T_add dL_law_791 (by omega) ?_
  refine T_sld (j := k + 3) dL_law_792 (by omega) (by omega) ?_
  refine T_callV dL_law_793 lL_71 (As := [_, _, _]) (rest := _) rfl rfl k1 (by decide) (Nat.le_of_ble_eq_true rfl) (Nat.le_of_ble_eq_true rfl) (t_C_told h.ms h.cs) ?_
  rintro _ d1 ⟨rfl, f1⟩
  have hI1 := IV_cf h f1
  have h272 : d1 272 = d 272 := funext fun j => f1 _ _ (by omega)
  refine T_aload_n dL_law_796 rfl ?_
  refine T_aload_s dL_law_797 rfl ?_
  refine T_iload_n dL_law_798 rfl ?_
  refine T_iconst dL_law_799 (by decide) ?_
  refine T_add dL_law_800 (by omega) ?_
  refine T_sld (j := k + 1) dL_law_801 (by omega) (by omega) ?_
  refine T_aload_s dL_law_802 rfl ?_
  refine T_iload_n dL_law_803 rfl ?_
  refine T_iconst dL_law_804 (by decide) ?_
  refine T_add dL_law_805 (by omega) ?_
  refine T_sld (j := k + 2) dL_law_806 (by omega) (by omega) ?_
  refine T_aload_s dL_law_807 rfl ?_
  refine T_iload_n dL_law_808 rfl ?_
  refine T_iconst dL_law_809 (by decide) ?_
  refine T_add dL_law_810 (by omega) ?_
  refine T_sld (j := k + 3) dL_law_811 (by omega) (by omega) ?_
  refine T_callV dL_law_812 lL_74 (As := [_, _, _]) (rest := _) rfl rfl k271 (by decide) (Nat.le_of_ble_eq_true rfl) (Nat.le_of_ble_eq_true rfl) (t_X12_told hI1.ms) ?_
  rintro _ d2 ⟨rfl, f2⟩
  have hI2 := IV_ag hI1 f2 (by decide)
  have hv : v_told (d1 272) (sc G (k + 1)) (sc G (k + 2)) (sc G (k + 3)) = v_told (d 272) (sc G (k + 1)) (sc G (k + 2)) (sc G (k + 3)) := by rw [h272]
  refine T_icmp_eq (tgt := 1718) dL_law_815 (by decide) (fun c815 => ?_) (fun c815 => absurd hv.symm c815)
  exact kk d2 hI2

theorem lc_bribes {k : Nat} (h : IV d) (hL : G.2.2.1 ≤ 3072) (hk : k + 6 ≤ G.2.2.1) (kk : ∀ d2, IV d2 → tB G mL_law 1718 (lwL k) [] d2 lwR) : tB G mL_law 820 (lwL k) [] d lwR := by
  refine T_aload_n dL_law_820 rfl ?_
  refine T_aload_s dL_law_821 rfl ?_
  refine T_iload_n dL_law_822 rfl ?_
  refine T_iconst dL_law_823 (by decide) ?_
  refine T_add dL_law_824 (by omega) ?_
  refine T_sld (j := k + 1) dL_law_825 (by omega) (by omega) ?_
  refine T_aload_s dL_law_826 rfl ?_
  refine T_iload_n dL_law_827 rfl ?_
  refine T_iconst dL_law_828 (by decide) ?_
  refine T_add dL_law_829 (by omega) ?_
  refine T_sld (j := k + 2) dL_law_830 (by omega) (by omega) ?_
  refine T_aload_s dL_law_831 rfl ?_
  refine T_iload_n dL_law_832 rfl ?_
  refine T_iconst dL_law_833 (by decide) ?_
  refine T_add dL_law_834 (by omega) ?_
  refine T_sld (j := k + 3) dL_law_835 (by omega) (by omega) ?_
  refine T_aload_s dL_law_836 rfl ?_
  refine T_iload_n dL_law_837 rfl ?_
  refine T_iconst dL_law_838 (by decide) ?_
  refine T_add dL_law_839 (by omega) ?_
  refine T_sld (j := k + 4) dL_law_840 (by omega) (by omega) ?_
  refine T_callV dL_law_841 lL_75 (As := [_, _, _, _]) (rest := _) rfl rfl k1 (by decide) (Nat.le_of_ble_eq_true rfl) (Nat.le_of_ble_eq_true rfl) (t_C_bribes h.ms h.cs) ?_
  rintro _ d1 ⟨rfl, f1⟩
  have hI1 := IV_cf h f1
  have h272 : d1 272 = d 272 := funext fun j => f1 _ _ (by omega)
  refine T_aload_n dL_law_844 rfl ?_
  refine T_aload_s dL_law_845 rfl ?_
  refine T_iload_n dL_law_846 rfl ?_
  refine T_iconst dL_law_847 (by decide) ?_
  refine T_add dL_law_848 (by omega) ?_
  refine T_sld (j := k + 1) dL_law_849 (by omega) (by omega) ?_
  refine T_aload_s dL_law_850 rfl ?_
  refine T_iload_n dL_law_851 rfl ?_
  refine T_iconst dL_law_852 (by decide) ?_
  refine T_add dL_law_853 (by omega) ?_
  refine T_sld (j := k + 2) dL_law_854 (by omega) (by omega) ?_
  refine T_aload_s dL_law_855 rfl ?_
  refine T_iload_n dL_law_856 rfl ?_
  refine T_iconst dL_law_857 (by decide) ?_
  refine T_add dL_law_858 (by omega) ?_
  refine T_sld (j := k + 3) dL_law_859 (by omega) (by omega) ?_
  refine T_aload_s dL_law_860 rfl ?_
  refine T_iload_n dL_law_861 rfl ?_
  refine T_iconst dL_law_862 (by decide) ?_
  refine T_add dL_law_863 (by omega) ?_
  refine T_sld (j := k + 4) dL_law_864 (by omega) (by omega) ?_
  refine T_callV dL_law_865 lL_78 (As := [_, _, _, _]) (rest := _) rfl rfl k271 (by decide) (Nat.le_of_ble_eq_true rfl) (Nat.le_of_ble_eq_true rfl) (t_X12_bribes hI1.ms) ?_
  rintro _ d2 ⟨rfl, f2⟩
  have hI2 := IV_ag hI1 f2 (by decide)
  have hv : v_bribes (d1 272) (sc G (k + 1)) (sc G (k + 2)) (sc G (k + 3)) (sc G (k + 4)) = v_bribes (d 272) (sc G (k + 1)) (sc G (k + 2)) (sc G (k + 3)) (sc G (k + 4)) := by rw [h272]
  refine T_icmp_eq (tgt := 1718) dL_law_868 (by decide) (fun c868 => ?_) (fun c868 => absurd hv.symm c868)
  exact kk d2 hI2

theorem lc_meant {k : Nat} (h : IV d) (hL : G.2.2.1 ≤ 3072) (hk : k + 6 ≤ G.2.2.1) (kk : ∀ d2, IV d2 → tB G mL_law 1718 (lwL k) [] d2 lwR) : tB G mL_law 873 (lwL k) [] d lwR := by
  by_cases hb : (sc G (k + 5)) = 0
  ·
    refine T_aload_n dL_law_873 rfl ?_
    refine T_aload_s dL_law_874 rfl ?_
    refine T_iload_n dL_law_875 rfl ?_
    refine T_iconst dL_law_876 (by decide) ?_
    refine T_add dL_law_877 (by omega) ?_
    refine T_sld (j := k + 1) dL_law_878 (by omega) (by omega) ?_
    refine T_aload_s dL_law_879 rfl ?_
    refine T_iload_n dL_law_880 rfl ?_
    refine T_iconst dL_law_881 (by decide) ?_
    refine T_add dL_law_882 (by omega) ?_
    refine T_sld (j := k + 2) dL_law_883 (by omega) (by omega) ?_
    refine T_aload_s dL_law_884 rfl ?_
    refine T_iload_n dL_law_885 rfl ?_
    refine T_iconst dL_law_886 (by decide) ?_
    refine T_add dL_law_887 (by omega) ?_
    refine T_sld (j := k + 3) dL_law_888 (by omega) (by omega) ?_
    refine T_aload_s dL_law_889 rfl ?_
    refine T_iload_n dL_law_890 rfl ?_
    refine T_iconst dL_law_891 (by decide) ?_
    refine T_add dL_law_892 (by omega) ?_
    refine T_sld (j := k + 4) dL_law_893 (by omega) (by omega) ?_
    refine T_aload_s dL_law_894 rfl ?_
    refine T_iload_n dL_law_895 rfl ?_
    refine T_iconst dL_law_896 (by decide) ?_
    refine T_add dL_law_897 (by omega) ?_
    refine T_sld (j := k + 5) dL_law_898 (by omega) (by omega) ?_
    refine T_if_eq (tgt := 906) dL_law_899 (by decide) (fun c899 => ?_) (fun c899 => absurd hb c899)
    refine T_iconst dL_law_906 (by decide) ?_
    refine T_callV dL_law_907 lL_79 (As := [_, _, _, _, _]) (rest := _) rfl rfl k1 (by decide) (Nat.le_of_ble_eq_true rfl) (Nat.le_of_ble_eq_true rfl) (t_C_meant h.ms h.cs) ?_
    rintro _ d1 ⟨rfl, f1⟩
    have hI1 := IV_cf h f1
    have h272 : d1 272 = d 272 := funext fun j => f1 _ _ (by omega)
    refine T_aload_n dL_law_910 rfl ?_
    refine T_aload_s dL_law_911 rfl ?_
    refine T_iload_n dL_law_912 rfl ?_
    refine T_iconst dL_law_913 (by decide) ?_
    refine T_add dL_law_914 (by omega) ?_
    refine T_sld (j := k + 1) dL_law_915 (by omega) (by omega) ?_
    refine T_aload_s dL_law_916 rfl ?_
    refine T_iload_n dL_law_917 rfl ?_
    refine T_iconst dL_law_918 (by decide) ?_
    refine T_add dL_law_919 (by omega) ?_
    refine T_sld (j := k + 2) dL_law_920 (by omega) (by omega) ?_
    refine T_aload_s dL_law_921 rfl ?_
    refine T_iload_n dL_law_922 rfl ?_
    refine T_iconst dL_law_923 (by decide) ?_
    refine T_add dL_law_924 (by omega) ?_
    refine T_sld (j := k + 3) dL_law_925 (by omega) (by omega) ?_
    refine T_aload_s dL_law_926 rfl ?_
    refine T_iload_n dL_law_927 rfl ?_
    refine T_iconst dL_law_928 (by decide) ?_
    refine T_add dL_law_929 (by omega) ?_
    refine T_sld (j := k + 4) dL_law_930 (by omega) (by omega) ?_
    refine T_aload_s dL_law_931 rfl ?_
    refine T_iload_n dL_law_932 rfl ?_
    refine T_iconst dL_law_933 (by decide) ?_
    refine T_add dL_law_934 (by omega) ?_
    refine T_sld (j := k + 5) dL_law_935 (by omega) (by omega) ?_
    refine T_if_eq (tgt := 943) dL_law_936 (by decide) (fun c936 => ?_) (fun c936 => absurd hb c936)
    refine T_iconst dL_law_943 (by decide) ?_
    refine T_callV dL_law_944 lL_82 (As := [_, _, _, _, _]) (rest := _) rfl rfl k271 (by decide) (Nat.le_of_ble_eq_true rfl) (Nat.le_of_ble_eq_true rfl) (t_X12_meant hI1.ms) ?_
    rintro _ d2 ⟨rfl, f2⟩
    have hI2 := IV_ag hI1 f2 (by decide)
    have hv : v_meant (d1 272) (sc G (k + 1)) (sc G (k + 2)) (sc G (k + 3)) (sc G (k + 4)) 0 = v_meant (d 272) (sc G (k + 1)) (sc G (k + 2)) (sc G (k + 3)) (sc G (k + 4)) 0 := by rw [h272]
    refine T_icmp_eq (tgt := 1718) dL_law_947 (by decide) (fun c947 => ?_) (fun c947 => absurd hv.symm c947)
    exact kk d2 hI2
  ·
    refine T_aload_n dL_law_873 rfl ?_
    refine T_aload_s dL_law_874 rfl ?_
    refine T_iload_n dL_law_875 rfl ?_
    refine T_iconst dL_law_876 (by decide) ?_
    refine T_add dL_law_877 (by omega) ?_
    refine T_sld (j := k + 1) dL_law_878 (by omega) (by omega) ?_
    refine T_aload_s dL_law_879 rfl ?_
    refine T_iload_n dL_law_880 rfl ?_
    refine T_iconst dL_law_881 (by decide) ?_
    refine T_add dL_law_882 (by omega) ?_
    refine T_sld (j := k + 2) dL_law_883 (by omega) (by omega) ?_
    refine T_aload_s dL_law_884 rfl ?_
    refine T_iload_n dL_law_885 rfl ?_
    refine T_iconst dL_law_886 (by decide) ?_
    refine T_add dL_law_887 (by omega) ?_
    refine T_sld (j := k + 3) dL_law_888 (by omega) (by omega) ?_
    refine T_aload_s dL_law_889 rfl ?_
    refine T_iload_n dL_law_890 rfl ?_
    refine T_iconst dL_law_891 (by decide) ?_
    refine T_add dL_law_892 (by omega) ?_
    refine T_sld (j := k + 4) dL_law_893 (by omega) (by omega) ?_
    refine T_aload_s dL_law_894 rfl ?_
    refine T_iload_n dL_law_895 rfl ?_
    refine T_iconst dL_law_896 (by decide) ?_
    refine T_add dL_law_897 (by omega) ?_
    refine T_sld (j := k + 5) dL_law_898 (by omega) (by omega) ?_
    refine T_if_eq (tgt := 906) dL_law_899 (by decide) (fun c899 => absurd c899 hb) (fun c899 => ?_)
    refine T_iconst dL_law_902 (by decide) ?_
    refine T_goto (tgt := 907) dL_law_903 (by decide) ?_
    refine T_callV dL_law_907 lL_79 (As := [_, _, _, _, _]) (rest := _) rfl rfl k1 (by decide) (Nat.le_of_ble_eq_true rfl) (Nat.le_of_ble_eq_true rfl) (t_C_meant h.ms h.cs) ?_
    rintro _ d1 ⟨rfl, f1⟩
    have hI1 := IV_cf h f1
    have h272 : d1 272 = d 272 := funext fun j => f1 _ _ (by omega)
    refine T_aload_n dL_law_910 rfl ?_
    refine T_aload_s dL_law_911 rfl ?_
    refine T_iload_n dL_law_912 rfl ?_
    refine T_iconst dL_law_913 (by decide) ?_
    refine T_add dL_law_914 (by omega) ?_
    refine T_sld (j := k + 1) dL_law_915 (by omega) (by omega) ?_
    refine T_aload_s dL_law_916 rfl ?_
    refine T_iload_n dL_law_917 rfl ?_
    refine T_iconst dL_law_918 (by decide) ?_
    refine T_add dL_law_919 (by omega) ?_
    refine T_sld (j := k + 2) dL_law_920 (by omega) (by omega) ?_
    refine T_aload_s dL_law_921 rfl ?_
    refine T_iload_n dL_law_922 rfl ?_
    refine T_iconst dL_law_923 (by decide) ?_
    refine T_add dL_law_924 (by omega) ?_
    refine T_sld (j := k + 3) dL_law_925 (by omega) (by omega) ?_
    refine T_aload_s dL_law_926 rfl ?_
    refine T_iload_n dL_law_927 rfl ?_
    refine T_iconst dL_law_928 (by decide) ?_
    refine T_add dL_law_929 (by omega) ?_
    refine T_sld (j := k + 4) dL_law_930 (by omega) (by omega) ?_
    refine T_aload_s dL_law_931 rfl ?_
    refine T_iload_n dL_law_932 rfl ?_
    refine T_iconst dL_law_933 (by decide) ?_
    refine T_add dL_law_934 (by omega) ?_
    refine T_sld (j := k + 5) dL_law_935 (by omega) (by omega) ?_
    refine T_if_eq (tgt := 943) dL_law_936 (by decide) (fun c936 => absurd c936 hb) (fun c936 => ?_)
    refine T_iconst dL_law_939 (by decide) ?_
    refine T_goto (tgt := 944) dL_law_940 (by decide) ?_
    refine T_callV dL_law_944 lL_82 (As := [_, _, _, _, _]) (rest := _) rfl rfl k271 (by decide) (Nat.le_of_ble_eq_true rfl) (Nat.le_of_ble_eq_true rfl) (t_X12_meant hI1.ms) ?_
    rintro _ d2 ⟨rfl, f2⟩
    have hI2 := IV_ag hI1 f2 (by decide)
    have hv : v_meant (d1 272) (sc G (k + 1)) (sc G (k + 2)) (sc G (k + 3)) (sc G (k + 4)) 1 = v_meant (d 272) (sc G (k + 1)) (sc G (k + 2)) (sc G (k + 3)) (sc G (k + 4)) 1 := by rw [h272]
    refine T_icmp_eq (tgt := 1718) dL_law_947 (by decide) (fun c947 => ?_) (fun c947 => absurd hv.symm c947)
    exact kk d2 hI2

theorem lc_truce {k : Nat} (h : IV d) (hL : G.2.2.1 ≤ 3072) (hk : k + 6 ≤ G.2.2.1) (kk : ∀ d2, IV d2 → tB G mL_law 1718 (lwL k) [] d2 lwR) : tB G mL_law 952 (lwL k) [] d lwR := by
  by_cases hb : (sc G (k + 4)) = 0
  ·
    refine T_aload_n dL_law_952 rfl ?_
    refine T_aload_s dL_law_953 rfl ?_
    refine T_iload_n dL_law_954 rfl ?_
    refine T_iconst dL_law_955 (by decide) ?_
    refine T_add dL_law_956 (by omega) ?_
    refine T_sld (j := k + 1) dL_law_957 (by omega) (by omega) ?_
    refine T_aload_s dL_law_958 rfl ?_
    refine T_iload_n dL_law_959 rfl ?_
    refine T_iconst dL_law_960 (by decide) ?_
    refine T_add dL_law_961 (by omega) ?_
    refine T_sld (j := k + 2) dL_law_962 (by omega) (by omega) ?_
    refine T_aload_s dL_law_963 rfl ?_
    refine T_iload_n dL_law_964 rfl ?_
    refine T_iconst dL_law_965 (by decide) ?_
    refine T_add dL_law_966 (by omega) ?_
    refine T_sld (j := k + 3) dL_law_967 (by omega) (by omega) ?_
    refine T_aload_s dL_law_968 rfl ?_
    refine T_iload_n dL_law_969 rfl ?_
    refine T_iconst dL_law_970 (by decide) ?_
    refine T_add dL_law_971 (by omega) ?_
    refine T_sld (j := k + 4) dL_law_972 (by omega) (by omega) ?_
    refine T_if_eq (tgt := 980) dL_law_973 (by decide) (fun c973 => ?_) (fun c973 => absurd hb c973)
    refine T_iconst dL_law_980 (by decide) ?_
    refine T_callV dL_law_981 lL_83 (As := [_, _, _, _]) (rest := _) rfl rfl k1 (by decide) (Nat.le_of_ble_eq_true rfl) (Nat.le_of_ble_eq_true rfl) (t_C_truce h.ms h.cs) ?_
    rintro _ d1 ⟨rfl, f1⟩
    have hI1 := IV_cf h f1
    have h272 : d1 272 = d 272 := funext fun j => f1 _ _ (by omega)
    refine T_aload_n dL_law_984 rfl ?_
    refine T_aload_s dL_law_985 rfl ?_
    refine T_iload_n dL_law_986 rfl ?_
    refine T_iconst dL_law_987 (by decide) ?_
    refine T_add dL_law_988 (by omega) ?_
    refine T_sld (j := k + 1) dL_law_989 (by omega) (by omega) ?_
    refine T_aload_s dL_law_990 rfl ?_
    refine T_iload_n dL_law_991 rfl ?_
    refine T_iconst dL_law_992 (by decide) ?_
    refine T_add dL_law_993 (by omega) ?_
    refine T_sld (j := k + 2) dL_law_994 (by omega) (by omega) ?_
    refine T_aload_s dL_law_995 rfl ?_
    refine T_iload_n dL_law_996 rfl ?_
    refine T_iconst dL_law_997 (by decide) ?_
    refine T_add dL_law_998 (by omega) ?_
    refine T_sld (j := k + 3) dL_law_999 (by omega) (by omega) ?_
    refine T_aload_s dL_law_1000 rfl ?_
    refine T_iload_n dL_law_1001 rfl ?_
    refine T_iconst dL_law_1002 (by decide) ?_
    refine T_add dL_law_1003 (by omega) ?_
    refine T_sld (j := k + 4) dL_law_1004 (by omega) (by omega) ?_
    refine T_if_eq (tgt := 1012) dL_law_1005 (by decide) (fun c1005 => ?_) (fun c1005 => absurd hb c1005)
    refine T_iconst dL_law_1012 (by decide) ?_
    refine T_callV dL_law_1013 lL_87 (As := [_, _, _, _]) (rest := _) rfl rfl k271 (by decide) (Nat.le_of_ble_eq_true rfl) (Nat.le_of_ble_eq_true rfl) (t_X12_truce hI1.ms) ?_
    rintro _ d2 ⟨rfl, f2⟩
    have hI2 := IV_ag hI1 f2 (by decide)
    have hv : v_truce (d1 272) (sc G (k + 1)) (sc G (k + 2)) (sc G (k + 3)) 0 = v_truce (d 272) (sc G (k + 1)) (sc G (k + 2)) (sc G (k + 3)) 0 := by rw [h272]
    refine T_icmp_eq (tgt := 1718) dL_law_1016 (by decide) (fun c1016 => ?_) (fun c1016 => absurd hv.symm c1016)
    exact kk d2 hI2
  ·
    refine T_aload_n dL_law_952 rfl ?_
    refine T_aload_s dL_law_953 rfl ?_
    refine T_iload_n dL_law_954 rfl ?_
    refine T_iconst dL_law_955 (by decide) ?_
    refine T_add dL_law_956 (by omega) ?_
    refine T_sld (j := k + 1) dL_law_957 (by omega) (by omega) ?_
    refine T_aload_s dL_law_958 rfl ?_
    refine T_iload_n dL_law_959 rfl ?_
    refine T_iconst dL_law_960 (by decide) ?_
    refine T_add dL_law_961 (by omega) ?_
    refine T_sld (j := k + 2) dL_law_962 (by omega) (by omega) ?_
    refine T_aload_s dL_law_963 rfl ?_
    refine T_iload_n dL_law_964 rfl ?_
    refine T_iconst dL_law_965 (by decide) ?_
    refine T_add dL_law_966 (by omega) ?_
    refine T_sld (j := k + 3) dL_law_967 (by omega) (by omega) ?_
    refine T_aload_s dL_law_968 rfl ?_
    refine T_iload_n dL_law_969 rfl ?_
    refine T_iconst dL_law_970 (by decide) ?_
    refine T_add dL_law_971 (by omega) ?_
    refine T_sld (j := k + 4) dL_law_972 (by omega) (by omega) ?_
    refine T_if_eq (tgt := 980) dL_law_973 (by decide) (fun c973 => absurd c973 hb) (fun c973 => ?_)
    refine T_iconst dL_law_976 (by decide) ?_
    refine T_goto (tgt := 981) dL_law_977 (by decide) ?_
    refine T_callV dL_law_981 lL_83 (As := [_, _, _, _]) (rest := _) rfl rfl k1 (by decide) (Nat.le_of_ble_eq_true rfl) (Nat.le_of_ble_eq_true rfl) (t_C_truce h.ms h.cs) ?_
    rintro _ d1 ⟨rfl, f1⟩
    have hI1 := IV_cf h f1
    have h272 : d1 272 = d 272 := funext fun j => f1 _ _ (by omega)
    refine T_aload_n dL_law_984 rfl ?_
    refine T_aload_s dL_law_985 rfl ?_
    refine T_iload_n dL_law_986 rfl ?_
    refine T_iconst dL_law_987 (by decide) ?_
    refine T_add dL_law_988 (by omega) ?_
    refine T_sld (j := k + 1) dL_law_989 (by omega) (by omega) ?_
    refine T_aload_s dL_law_990 rfl ?_
    refine T_iload_n dL_law_991 rfl ?_
    refine T_iconst dL_law_992 (by decide) ?_
    refine T_add dL_law_993 (by omega) ?_
    refine T_sld (j := k + 2) dL_law_994 (by omega) (by omega) ?_
    refine T_aload_s dL_law_995 rfl ?_
    refine T_iload_n dL_law_996 rfl ?_
    refine T_iconst dL_law_997 (by decide) ?_
    refine T_add dL_law_998 (by omega) ?_
    refine T_sld (j := k + 3) dL_law_999 (by omega) (by omega) ?_
    refine T_aload_s dL_law_1000 rfl ?_
    refine T_iload_n dL_law_1001 rfl ?_
    refine T_iconst dL_law_1002 (by decide) ?_
    refine T_add dL_law_1003 (by omega) ?_
    refine T_sld (j := k + 4) dL_law_1004 (by omega) (by omega) ?_
    refine T_if_eq (tgt := 1012) dL_law_1005 (by decide) (fun c1005 => absurd c1005 hb) (fun c1005 => ?_)
    refine T_iconst dL_law_1008 (by decide) ?_
    refine T_goto (tgt := 1013) dL_law_1009 (by decide) ?_
    refine T_callV dL_law_1013 lL_87 (As := [_, _, _, _]) (rest := _) rfl rfl k271 (by decide) (Nat.le_of_ble_eq_true rfl) (Nat.le_of_ble_eq_true rfl) (t_X12_truce hI1.ms) ?_
    rintro _ d2 ⟨rfl, f2⟩
    have hI2 := IV_ag hI1 f2 (by decide)
    have hv : v_truce (d1 272) (sc G (k + 1)) (sc G (k + 2)) (sc G (k + 3)) 1 = v_truce (d 272) (sc G (k + 1)) (sc G (k + 2)) (sc G (k + 3)) 1 := by rw [h272]
    refine T_icmp_eq (tgt := 1718) dL_law_1016 (by decide) (fun c1016 => ?_) (fun c1016 => absurd hv.symm c1016)
    exact kk d2 hI2

theorem lc_far {k : Nat} (h : IV d) (hL : G.2.2.1 ≤ 3072) (hk : k + 6 ≤ G.2.2.1) (kk : ∀ d2, IV d2 → tB G mL_law 1718 (lwL k) [] d2 lwR) : tB G mL_law 1021 (lwL k) [] d lwR := by
  refine T_aload_n dL_law_1021 rfl ?_
  refine T_aload_s dL_law_1022 rfl ?_
  refine T_iload_n dL_law_1023 rfl ?_
  refine T_iconst dL_law_1024 (by decide) ?_
  refine T_add dL_law_1025 (by omega) ?_
  refine T_sld (j := k + 1) dL_law_1026 (by omega) (by omega) ?_
  refine T_aload_s dL_law_1027 rfl ?_
  refine T_iload_n dL_law_1028 rfl ?_
  refine T_iconst dL_law_1029 (by decide) ?_
  refine T_add dL_law_1030 (by omega) ?_
  refine T_sld (j := k + 2) dL_law_1031 (by omega) (by omega) ?_
  refine T_aload_s dL_law_1032 rfl ?_
  refine T_iload_n dL_law_1033 rfl ?_
  refine T_iconst dL_law_1034 (by decide) ?_
  refine T_add dL_law_1035 (by omega) ?_
  refine T_sld (j := k + 3) dL_law_1036 (by omega) (by omega) ?_
  refine T_aload_s dL_law_1037 rfl ?_
  refine T_iload_n dL_law_1038 rfl ?_
  refine T_iconst dL_law_1039 (by decide) ?_
  refine T_add dL_law_1040 (by omega) ?_
  refine T_sld (j := k + 4) dL_law_1041 (by omega) (by omega) ?_
  refine T_callV dL_law_1042 lL_88 (As := [_, _, _, _]) (rest := _) rfl rfl k1 (by decide) (Nat.le_of_ble_eq_true rfl) (Nat.le_of_ble_eq_true rfl) (t_C_far h.ms h.cs) ?_
  rintro _ d1 ⟨rfl, f1⟩
  have hI1 := IV_cf h f1
  have h272 : d1 272 = d 272 := funext fun j => f1 _ _ (by omega)
  refine T_aload_n dL_law_1045 rfl ?_
  refine T_aload_s dL_law_1046 rfl ?_
  refine T_iload_n dL_law_1047 rfl ?_
  refine T_iconst dL_law_1048 (by decide) ?_
  refine T_add dL_law_1049 (by omega) ?_
  refine T_sld (j := k + 1) dL_law_1050 (by omega) (by omega) ?_
  refine T_aload_s dL_law_1051 rfl ?_
  refine T_iload_n dL_law_1052 rfl ?_
  refine T_iconst dL_law_1053 (by decide) ?_
  refine T_add dL_law_1054 (by omega) ?_
  refine T_sld (j := k + 2) dL_law_1055 (by omega) (by omega) ?_
  refine T_aload_s dL_law_1056 rfl ?_
  refine T_iload_n dL_law_1057 rfl ?_
  refine T_iconst dL_law_1058 (by decide) ?_
  refine T_add dL_law_1059 (by omega) ?_
  refine T_sld (j := k + 3) dL_law_1060 (by omega) (by omega) ?_
  refine T_aload_s dL_law_1061 rfl ?_
  refine T_iload_n dL_law_1062 rfl ?_
  refine T_iconst dL_law_1063 (by decide) ?_
  refine T_add dL_law_1064 (by omega) ?_
  refine T_sld (j := k + 4) dL_law_1065 (by omega) (by omega) ?_
  refine T_callV dL_law_1066 lL_91 (As := [_, _, _, _]) (rest := _) rfl rfl k271 (by decide) (Nat.le_of_ble_eq_true rfl) (Nat.le_of_ble_eq_true rfl) (t_X12_far hI1.ms) ?_
  rintro _ d2 ⟨rfl, f2⟩
  have hI2 := IV_ag hI1 f2 (by decide)
  have hv : v_far (d1 272) (sc G (k + 1)) (sc G (k + 2)) (sc G (k + 3)) (sc G (k + 4)) = v_far (d 272) (sc G (k + 1)) (sc G (k + 2)) (sc G (k + 3)) (sc G (k + 4)) := by rw [h272]
  refine T_icmp_eq (tgt := 1718) dL_law_1069 (by decide) (fun c1069 => ?_) (fun c1069 => absurd hv.symm c1069)
  exact kk d2 hI2

theorem lc_codes {k : Nat} (h : IV d) (hL : G.2.2.1 ≤ 3072) (hk : k + 6 ≤ G.2.2.1) (kk : ∀ d2, IV d2 → tB G mL_law 1718 (lwL k) [] d2 lwR) : tB G mL_law 1074 (lwL k) [] d lwR := by
  refine T_aload_n dL_law_1074 rfl ?_
  refine T_aload_s dL_law_1075 rfl ?_
  refine T_iload_n dL_law_1076 rfl ?_
  refine T_iconst dL_law_1077 (by decide) ?_
  refine T_add dL_law_1078 (by omega) ?_
  refine T_sld (j := k + 1) dL_law_1079 (by omega) (by omega) ?_
  refine T_aload_s dL_law_1080 rfl ?_
  refine T_iload_n dL_law_1081 rfl ?_
  refine T_iconst dL_law_1082 (by decide) ?_
  refine T_add dL_law_1083 (by omega) ?_
  refine T_sld (j := k + 2) dL_law_1084 (by omega) (by omega) ?_
  refine T_aload_s dL_law_1085 rfl ?_
  refine T_iload_n dL_law_1086 rfl ?_
  refine T_iconst dL_law_1087 (by decide) ?_
  refine T_add dL_law_1088 (by omega) ?_
  refine T_sld (j := k + 3) dL_law_1089 (by omega) (by omega) ?_
  refine T_callV dL_law_1090 lL_92 (As := [_, _, _]) (rest := _) rfl rfl k1 (by decide) (Nat.le_of_ble_eq_true rfl) (Nat.le_of_ble_eq_true rfl) (t_C_codes h.ms h.cs) ?_
  rintro _ d1 ⟨rfl, f1⟩
  have hI1 := IV_cf h f1
  have h272 : d1 272 = d 272 := funext fun j => f1 _ _ (by omega)
  refine T_aload_n dL_law_1093 rfl ?_
  refine T_aload_s dL_law_1094 rfl ?_
  refine T_iload_n dL_law_1095 rfl ?_
  refine T_iconst dL_law_1096 (by decide) ?_
  refine T_add dL_law_1097 (by omega) ?_
  refine T_sld (j := k + 1) dL_law_1098 (by omega) (by omega) ?_
  refine T_aload_s dL_law_1099 rfl ?_
  refine T_iload_n dL_law_1100 rfl ?_
  refine T_iconst dL_law_1101 (by decide) ?_
  refine T_add dL_law_1102 (by omega) ?_
  refine T_sld (j := k + 2) dL_law_1103 (by omega) (by omega) ?_
  refine T_aload_s dL_law_1104 rfl ?_
  refine T_iload_n dL_law_1105 rfl ?_
  refine T_iconst dL_law_1106 (by decide) ?_
  refine T_add dL_law_1107 (by omega) ?_
  refine T_sld (j := k + 3) dL_law_1108 (by omega) (by omega) ?_
  refine T_callV dL_law_1109 lL_95 (As := [_, _, _]) (rest := _) rfl rfl k271 (by decide) (Nat.le_of_ble_eq_true rfl) (Nat.le_of_ble_eq_true rfl) (t_X12_codes hI1.ms) ?_
  rintro _ d2 ⟨rfl, f2⟩
  have hI2 := IV_ag hI1 f2 (by decide)
  have hv : v_codes (d1 272) (sc G (k + 1)) (sc G (k + 2)) (sc G (k + 3)) = v_codes (d 272) (sc G (k + 1)) (sc G (k + 2)) (sc G (k + 3)) := by rw [h272]
  refine T_icmp_eq (tgt := 1718) dL_law_1112 (by decide) (fun c1112 => ?_) (fun c1112 => absurd hv.symm c1112)
  exact kk d2 hI2

theorem lc_shared {k : Nat} (h : IV d) (hL : G.2.2.1 ≤ 3072) (hk : k + 6 ≤ G.2.2.1) (kk : ∀ d2, IV d2 → tB G mL_law 1718 (lwL k) [] d2 lwR) : tB G mL_law 1117 (lwL k) [] d lwR := by
  refine T_aload_n dL_law_1117 rfl ?_
  refine T_aload_s dL_law_1118 rfl ?_
  refine T_iload_n dL_law_1119 rfl ?_
  refine T_iconst dL_law_1120 (by decide) ?_
  refine T_add dL_law_1121 (by omega) ?_
  refine T_sld (j := k + 1) dL_law_1122 (by omega) (by omega) ?_
  refine T_aload_s dL_law_1123 rfl ?_
  refine T_iload_n dL_law_1124 rfl ?_
  refine T_iconst dL_law_1125 (by decide) ?_
  refine T_add dL_law_1126 (by omega) ?_
  refine T_sld (j := k + 2) dL_law_1127 (by omega) (by omega) ?_
  refine T_callV dL_law_1128 lL_96 (As := [_, _]) (rest := _) rfl rfl k1 (by decide) (Nat.le_of_ble_eq_true rfl) (Nat.le_of_ble_eq_true rfl) (t_C_shared h.ms h.cs) ?_
  rintro _ d1 ⟨rfl, f1⟩
  have hI1 := IV_cf h f1
  have h272 : d1 272 = d 272 := funext fun j => f1 _ _ (by omega)
  refine T_aload_n dL_law_1131 rfl ?_
  refine T_aload_s dL_law_1132 rfl ?_
  refine T_iload_n dL_law_1133 rfl ?_
  refine T_iconst dL_law_1134 (by decide) ?_
  refine T_add dL_law_1135 (by omega) ?_
  refine T_sld (j := k + 1) dL_law_1136 (by omega) (by omega) ?_
  refine T_aload_s dL_law_1137 rfl ?_
  refine T_iload_n dL_law_1138 rfl ?_
  refine T_iconst dL_law_1139 (by decide) ?_
  refine T_add dL_law_1140 (by omega) ?_
  refine T_sld (j := k + 2) dL_law_1141 (by omega) (by omega) ?_
  refine T_callV dL_law_1142 lL_99 (As := [_, _]) (rest := _) rfl rfl k271 (by decide) (Nat.le_of_ble_eq_true rfl) (Nat.le_of_ble_eq_true rfl) (t_X12_shared hI1.ms) ?_
  rintro _ d2 ⟨rfl, f2⟩
  have hI2 := IV_ag hI1 f2 (by decide)
  have hv : v_shared (d1 272) (sc G (k + 1)) (sc G (k + 2)) = v_shared (d 272) (sc G (k + 1)) (sc G (k + 2)) := by rw [h272]
  refine T_icmp_eq (tgt := 1718) dL_law_1145 (by decide) (fun c1145 => ?_) (fun c1145 => absurd hv.symm c1145)
  exact kk d2 hI2

theorem lc_village {k : Nat} (h : IV d) (hL : G.2.2.1 ≤ 3072) (hk : k + 6 ≤ G.2.2.1) (kk : ∀ d2, IV d2 → tB G mL_law 1718 (lwL k) [] d2 lwR) : tB G mL_law 1150 (lwL k) [] d lwR := by
  refine T_aload_n dL_law_1150 rfl ?_
  refine T_aload_s dL_law_1151 rfl ?_
  refine T_iload_n dL_law_1152 rfl ?_
  refine T_iconst dL_law_1153 (by decide) ?_
  refine T_add dL_law_1154 (by omega) ?_
  refine T_sld (j := k + 1) dL_law_1155 (by omega) (by omega) ?_
  refine T_aload_s dL_law_1156 rfl ?_
  refine T_iload_n dL_law_1157 rfl ?_
  refine T_iconst dL_law_1158 (by decide) ?_
  refine T_add dL_law_1159 (by omega) ?_
  refine T_sld (j := k + 2) dL_law_1160 (by omega) (by omega) ?_
  refine T_aload_s dL_law_1161 rfl ?_
  refine T_iload_n dL_law_1162 rfl ?_
  refine T_iconst dL_law_1163 (by decide) ?_
  refine T_add dL_law_1164 (by omega) ?_
  refine T_sld (j := k + 3) dL_law_1165 (by omega) (by omega) ?_
  refine T_callV dL_law_1166 lL_100 (As := [_, _, _]) (rest := _) rfl rfl k1 (by decide) (Nat.le_of_ble_eq_true rfl) (Nat.le_of_ble_eq_true rfl) (t_C_village h.ms h.cs) ?_
  rintro _ d1 ⟨rfl, f1⟩
  have hI1 := IV_cf h f1
  have h272 : d1 272 = d 272 := funext fun j => f1 _ _ (by omega)
  refine T_aload_n dL_law_1169 rfl ?_
  refine T_aload_s dL_law_1170 rfl ?_
  refine T_iload_n dL_law_1171 rfl ?_
  refine T_iconst dL_law_1172 (by decide) ?_
  refine T_add dL_law_1173 (by omega) ?_
  refine T_sld (j := k + 1) dL_law_1174 (by omega) (by omega) ?_
  refine T_aload_s dL_law_1175 rfl ?_
  refine T_iload_n dL_law_1176 rfl ?_
  refine T_iconst dL_law_1177 (by decide) ?_
  refine T_add dL_law_1178 (by omega) ?_
  refine T_sld (j := k + 2) dL_law_1179 (by omega) (by omega) ?_
  refine T_aload_s dL_law_1180 rfl ?_
  refine T_iload_n dL_law_1181 rfl ?_
  refine T_iconst dL_law_1182 (by decide) ?_
  refine T_add dL_law_1183 (by omega) ?_
  refine T_sld (j := k + 3) dL_law_1184 (by omega) (by omega) ?_
  refine T_callV dL_law_1185 lL_103 (As := [_, _, _]) (rest := _) rfl rfl k271 (by decide) (Nat.le_of_ble_eq_true rfl) (Nat.le_of_ble_eq_true rfl) (t_X12_village hI1.ms) ?_
  rintro _ d2 ⟨rfl, f2⟩
  have hI2 := IV_ag hI1 f2 (by decide)
  have hv : v_village (d1 272) (sc G (k + 1)) (sc G (k + 2)) (sc G (k + 3)) = v_village (d 272) (sc G (k + 1)) (sc G (k + 2)) (sc G (k + 3)) := by rw [h272]
  refine T_icmp_eq (tgt := 1718) dL_law_1188 (by decide) (fun c1188 => ?_) (fun c1188 => absurd hv.symm c1188)
  exact kk d2 hI2

theorem lc_version {k : Nat} (h : IV d) (hL : G.2.2.1 ≤ 3072) (hk : k + 6 ≤ G.2.2.1) (kk : ∀ d2, IV d2 → tB G mL_law 1718 (lwL k) [] d2 lwR) : tB G mL_law 1193 (lwL k) [] d lwR := by
  refine T_aload_n dL_law_1193 rfl ?_
  refine T_aload_s dL_law_1194 rfl ?_
  refine T_iload_n dL_law_1195 rfl ?_
  refine T_iconst dL_law_1196 (by decide) ?_
  refine T_add dL_law_1197 (by omega) ?_
  refine T_sld (j := k + 1) dL_law_1198 (by omega) (by omega) ?_
  refine T_aload_s dL_law_1199 rfl ?_
  refine T_iload_n dL_law_1200 rfl ?_
  refine T_iconst dL_law_1201 (by decide) ?_
  refine T_add dL_law_1202 (by omega) ?_
  refine T_sld (j := k + 2) dL_law_1203 (by omega) (by omega) ?_
  refine T_aload_s dL_law_1204 rfl ?_
  refine T_iload_n dL_law_1205 rfl ?_
  refine T_iconst dL_law_1206 (by decide) ?_
  refine T_add dL_law_1207 (by omega) ?_
  refine T_sld (j := k + 3) dL_law_1208 (by omega) (by omega) ?_
  refine T_aload_s dL_law_1209 rfl ?_
  refine T_iload_n dL_law_1210 rfl ?_
  refine T_iconst dL_law_1211 (by decide) ?_
  refine T_add dL_law_1212 (by omega) ?_
  refine T_sld (j := k + 4) dL_law_1213 (by omega) (by omega) ?_
  refine T_aload_s dL_law_1214 rfl ?_
  refine T_iload_n dL_law_1215 rfl ?_
  refine T_iconst dL_law_1216 (by decide) ?_
  refine T_add dL_law_1217 (by omega) ?_
  refine T_sld (j := k + 5) dL_law_1218 (by omega) (by omega) ?_
  refine T_callV dL_law_1219 lL_104 (As := [_, _, _, _, _]) (rest := _) rfl rfl k1 (by decide) (Nat.le_of_ble_eq_true rfl) (Nat.le_of_ble_eq_true rfl) (t_C_version h.ms h.cs) ?_
  rintro _ d1 ⟨rfl, f1⟩
  have hI1 := IV_cf h f1
  have h272 : d1 272 = d 272 := funext fun j => f1 _ _ (by omega)
  refine T_aload_n dL_law_1222 rfl ?_
  refine T_aload_s dL_law_1223 rfl ?_
  refine T_iload_n dL_law_1224 rfl ?_
  refine T_iconst dL_law_1225 (by decide) ?_
  refine T_add dL_law_1226 (by omega) ?_
  refine T_sld (j := k + 1) dL_law_1227 (by omega) (by omega) ?_
  refine T_aload_s dL_law_1228 rfl ?_
  refine T_iload_n dL_law_1229 rfl ?_
  refine T_iconst dL_law_1230 (by decide) ?_
  refine T_add dL_law_1231 (by omega) ?_
  refine T_sld (j := k + 2) dL_law_1232 (by omega) (by omega) ?_
  refine T_aload_s dL_law_1233 rfl ?_
  refine T_iload_n dL_law_1234 rfl ?_
  refine T_iconst dL_law_1235 (by decide) ?_
  refine T_add dL_law_1236 (by omega) ?_
  refine T_sld (j := k + 3) dL_law_1237 (by omega) (by omega) ?_
  refine T_aload_s dL_law_1238 rfl ?_
  refine T_iload_n dL_law_1239 rfl ?_
  refine T_iconst dL_law_1240 (by decide) ?_
  refine T_add dL_law_1241 (by omega) ?_
  refine T_sld (j := k + 4) dL_law_1242 (by omega) (by omega) ?_
  refine T_aload_s dL_law_1243 rfl ?_
  refine T_iload_n dL_law_1244 rfl ?_
  refine T_iconst dL_law_1245 (by decide) ?_
  refine T_add dL_law_1246 (by omega) ?_
  refine T_sld (j := k + 5) dL_law_1247 (by omega) (by omega) ?_
  refine T_callV dL_law_1248 lL_107 (As := [_, _, _, _, _]) (rest := _) rfl rfl k271 (by decide) (Nat.le_of_ble_eq_true rfl) (Nat.le_of_ble_eq_true rfl) (t_X12_version hI1.ms) ?_
  rintro _ d2 ⟨rfl, f2⟩
  have hI2 := IV_ag hI1 f2 (by decide)
  have hv : v_version (d1 272) (sc G (k + 1)) (sc G (k + 2)) (sc G (k + 3)) (sc G (k + 4)) (sc G (k + 5)) = v_version (d 272) (sc G (k + 1)) (sc G (k + 2)) (sc G (k + 3)) (sc G (k + 4)) (sc G (k + 5)) := by rw [h272]
  refine T_icmp_eq (tgt := 1718) dL_law_1251 (by decide) (fun c1251 => ?_) (fun c1251 => absurd hv.symm c1251)
  exact kk d2 hI2

theorem lc_tale {k : Nat} (h : IV d) (hL : G.2.2.1 ≤ 3072) (hk : k + 6 ≤ G.2.2.1) (kk : ∀ d2, IV d2 → tB G mL_law 1718 (lwL k) [] d2 lwR) : tB G mL_law 1256 (lwL k) [] d lwR := by
  by_cases hb : (sc G (k + 5)) = 0
  ·
    refine T_aload_n dL_law_1256 rfl ?_
    refine T_aload_s dL_law_1257 rfl ?_
    refine T_iload_n dL_law_1258 rfl ?_
    refine T_iconst dL_law_1259 (by decide) ?_
    refine T_add dL_law_1260 (by omega) ?_
    refine T_sld (j := k + 1) dL_law_1261 (by omega) (by omega) ?_
    refine T_aload_s dL_law_1262 rfl ?_
    refine T_iload_n dL_law_1263 rfl ?_
    refine T_iconst dL_law_1264 (by decide) ?_
    refine T_add dL_law_1265 (by omega) ?_
    refine T_sld (j := k + 2) dL_law_1266 (by omega) (by omega) ?_
    refine T_aload_s dL_law_1267 rfl ?_
    refine T_iload_n dL_law_1268 rfl ?_
    refine T_iconst dL_law_1269 (by decide) ?_
    refine T_add dL_law_1270 (by omega) ?_
    refine T_sld (j := k + 3) dL_law_1271 (by omega) (by omega) ?_
    refine T_aload_s dL_law_1272 rfl ?_
    refine T_iload_n dL_law_1273 rfl ?_
    refine T_iconst dL_law_1274 (by decide) ?_
    refine T_add dL_law_1275 (by omega) ?_
    refine T_sld (j := k + 4) dL_law_1276 (by omega) (by omega) ?_
    refine T_aload_s dL_law_1277 rfl ?_
    refine T_iload_n dL_law_1278 rfl ?_
    refine T_iconst dL_law_1279 (by decide) ?_
    refine T_add dL_law_1280 (by omega) ?_
    refine T_sld (j := k + 5) dL_law_1281 (by omega) (by omega) ?_
    refine T_if_eq (tgt := 1289) dL_law_1282 (by decide) (fun c1282 => ?_) (fun c1282 => absurd hb c1282)
    refine T_iconst dL_law_1289 (by decide) ?_
    refine T_callV dL_law_1290 lL_108 (As := [_, _, _, _, _]) (rest := _) rfl rfl k1 (by decide) (Nat.le_of_ble_eq_true rfl) (Nat.le_of_ble_eq_true rfl) (t_C_tale h.ms h.cs) ?_
    rintro _ d1 ⟨rfl, f1⟩
    have hI1 := IV_cf h f1
    have h272 : d1 272 = d 272 := funext fun j => f1 _ _ (by omega)
    refine T_aload_n dL_law_1293 rfl ?_
    refine T_aload_s dL_law_1294 rfl ?_
    refine T_iload_n dL_law_1295 rfl ?_
    refine T_iconst dL_law_1296 (by decide) ?_
    refine T_add dL_law_1297 (by omega) ?_
    refine T_sld (j := k + 1) dL_law_1298 (by omega) (by omega) ?_
    refine T_aload_s dL_law_1299 rfl ?_
    refine T_iload_n dL_law_1300 rfl ?_
    refine T_iconst dL_law_1301 (by decide) ?_
    refine T_add dL_law_1302 (by omega) ?_
    refine T_sld (j := k + 2) dL_law_1303 (by omega) (by omega) ?_
    refine T_aload_s dL_law_1304 rfl ?_
    refine T_iload_n dL_law_1305 rfl ?_
    refine T_iconst dL_law_1306 (by decide) ?_
    refine T_add dL_law_1307 (by omega) ?_
    refine T_sld (j := k + 3) dL_law_1308 (by omega) (by omega) ?_
    refine T_aload_s dL_law_1309 rfl ?_
    refine T_iload_n dL_law_1310 rfl ?_
    refine T_iconst dL_law_1311 (by decide) ?_
    refine T_add dL_law_1312 (by omega) ?_
    refine T_sld (j := k + 4) dL_law_1313 (by omega) (by omega) ?_
    refine T_aload_s dL_law_1314 rfl ?_
    refine T_iload_n dL_law_1315 rfl ?_
    refine T_iconst dL_law_1316 (by decide) ?_
    refine T_add dL_law_1317 (by omega) ?_
    refine T_sld (j := k + 5) dL_law_1318 (by omega) (by omega) ?_
    refine T_if_eq (tgt := 1326) dL_law_1319 (by decide) (fun c1319 => ?_) (fun c1319 => absurd hb c1319)
    refine T_iconst dL_law_1326 (by decide) ?_
    refine T_callV dL_law_1327 lL_111 (As := [_, _, _, _, _]) (rest := _) rfl rfl k271 (by decide) (Nat.le_of_ble_eq_true rfl) (Nat.le_of_ble_eq_true rfl) (t_X12_tale hI1.ms) ?_
    rintro _ d2 ⟨rfl, f2⟩
    have hI2 := IV_ag hI1 f2 (by decide)
    have hv : v_tale (d1 272) (sc G (k + 1)) (sc G (k + 2)) (sc G (k + 3)) (sc G (k + 4)) 0 = v_tale (d 272) (sc G (k + 1)) (sc G (k + 2)) (sc G (k + 3)) (sc G (k + 4)) 0 := by rw [h272]
    refine T_icmp_eq (tgt := 1718) dL_law_1330 (by decide) (fun c1330 => ?_) (fun c1330 => absurd hv.symm c1330)
    exact kk d2 hI2
  ·
    refine T_aload_n dL_law_1256 rfl ?_
    refine T_aload_s dL_law_1257 rfl ?_
    refine T_iload_n dL_law_1258 rfl ?_
    refine T_iconst dL_law_1259 (by decide) ?_
    refine T_add dL_law_1260 (by omega) ?_
    refine T_sld (j := k + 1) dL_law_1261 (by omega) (by omega) ?_
    refine T_aload_s dL_law_1262 rfl ?_
    refine T_iload_n dL_law_1263 rfl ?_
    refine T_iconst dL_law_1264 (by decide) ?_
    refine T_add dL_law_1265 (by omega) ?_
    refine T_sld (j := k + 2) dL_law_1266 (by omega) (by omega) ?_
    refine T_aload_s dL_law_1267 rfl ?_
    refine T_iload_n dL_law_1268 rfl ?_
    refine T_iconst dL_law_1269 (by decide) ?_
    refine T_add dL_law_1270 (by omega) ?_
    refine T_sld (j := k + 3) dL_law_1271 (by omega) (by omega) ?_
    refine T_aload_s dL_law_1272 rfl ?_
    refine T_iload_n dL_law_1273 rfl ?_
    refine T_iconst dL_law_1274 (by decide) ?_
    refine T_add dL_law_1275 (by omega) ?_
    refine T_sld (j := k + 4) dL_law_1276 (by omega) (by omega) ?_
    refine T_aload_s dL_law_1277 rfl ?_
    refine T_iload_n dL_law_1278 rfl ?_
    refine T_iconst dL_law_1279 (by decide) ?_
    refine T_add dL_law_1280 (by omega) ?_
    refine T_sld (j := k + 5) dL_law_1281 (by omega) (by omega) ?_
    refine T_if_eq (tgt := 1289) dL_law_1282 (by decide) (fun c1282 => absurd c1282 hb) (fun c1282 => ?_)
    refine T_iconst dL_law_1285 (by decide) ?_
    refine T_goto (tgt := 1290) dL_law_1286 (by decide) ?_
    refine T_callV dL_law_1290 lL_108 (As := [_, _, _, _, _]) (rest := _) rfl rfl k1 (by decide) (Nat.le_of_ble_eq_true rfl) (Nat.le_of_ble_eq_true rfl) (t_C_tale h.ms h.cs) ?_
    rintro _ d1 ⟨rfl, f1⟩
    have hI1 := IV_cf h f1
    have h272 : d1 272 = d 272 := funext fun j => f1 _ _ (by omega)
    refine T_aload_n dL_law_1293 rfl ?_
    refine T_aload_s dL_law_1294 rfl ?_
    refine T_iload_n dL_law_1295 rfl ?_
    refine T_iconst dL_law_1296 (by decide) ?_
    refine T_add dL_law_1297 (by omega) ?_
    refine T_sld (j := k + 1) dL_law_1298 (by omega) (by omega) ?_
    refine T_aload_s dL_law_1299 rfl ?_
    refine T_iload_n dL_law_1300 rfl ?_
    refine T_iconst dL_law_1301 (by decide) ?_
    refine T_add dL_law_1302 (by omega) ?_
    refine T_sld (j := k + 2) dL_law_1303 (by omega) (by omega) ?_
    refine T_aload_s dL_law_1304 rfl ?_
    refine T_iload_n dL_law_1305 rfl ?_
    refine T_iconst dL_law_1306 (by decide) ?_
    refine T_add dL_law_1307 (by omega) ?_
    refine T_sld (j := k + 3) dL_law_1308 (by omega) (by omega) ?_
    refine T_aload_s dL_law_1309 rfl ?_
    refine T_iload_n dL_law_1310 rfl ?_
    refine T_iconst dL_law_1311 (by decide) ?_
    refine T_add dL_law_1312 (by omega) ?_
    refine T_sld (j := k + 4) dL_law_1313 (by omega) (by omega) ?_
    refine T_aload_s dL_law_1314 rfl ?_
    refine T_iload_n dL_law_1315 rfl ?_
    refine T_iconst dL_law_1316 (by decide) ?_
    refine T_add dL_law_1317 (by omega) ?_
    refine T_sld (j := k + 5) dL_law_1318 (by omega) (by omega) ?_
    refine T_if_eq (tgt := 1326) dL_law_1319 (by decide) (fun c1319 => absurd c1319 hb) (fun c1319 => ?_)
    refine T_iconst dL_law_1322 (by decide) ?_
    refine T_goto (tgt := 1327) dL_law_1323 (by decide) ?_
    refine T_callV dL_law_1327 lL_111 (As := [_, _, _, _, _]) (rest := _) rfl rfl k271 (by decide) (Nat.le_of_ble_eq_true rfl) (Nat.le_of_ble_eq_true rfl) (t_X12_tale hI1.ms) ?_
    rintro _ d2 ⟨rfl, f2⟩
    have hI2 := IV_ag hI1 f2 (by decide)
    have hv : v_tale (d1 272) (sc G (k + 1)) (sc G (k + 2)) (sc G (k + 3)) (sc G (k + 4)) 1 = v_tale (d 272) (sc G (k + 1)) (sc G (k + 2)) (sc G (k + 3)) (sc G (k + 4)) 1 := by rw [h272]
    refine T_icmp_eq (tgt := 1718) dL_law_1330 (by decide) (fun c1330 => ?_) (fun c1330 => absurd hv.symm c1330)
    exact kk d2 hI2

theorem lc_drawn {k : Nat} (h : IV d) (hL : G.2.2.1 ≤ 3072) (hk : k + 6 ≤ G.2.2.1) (kk : ∀ d2, IV d2 → tB G mL_law 1718 (lwL k) [] d2 lwR) : tB G mL_law 1335 (lwL k) [] d lwR := by
  refine T_aload_n dL_law_1335 rfl ?_
  refine T_aload_s dL_law_1336 rfl ?_
  refine T_iload_n dL_law_1337 rfl ?_
  refine T_iconst dL_law_1338 (by decide) ?_
  refine T_add dL_law_1339 (by omega) ?_
  refine T_sld (j := k + 1) dL_law_1340 (by omega) (by omega) ?_
  refine T_aload_s dL_law_1341 rfl ?_
  refine T_iload_n dL_law_1342 rfl ?_
  refine T_iconst dL_law_1343 (by decide) ?_
  refine T_add dL_law_1344 (by omega) ?_
  refine T_sld (j := k + 2) dL_law_1345 (by omega) (by omega) ?_
  refine T_aload_s dL_law_1346 rfl ?_
  refine T_iload_n dL_law_1347 rfl ?_
  refine T_iconst dL_law_1348 (by decide) ?_
  refine T_add dL_law_1349 (by omega) ?_
  refine T_sld (j := k + 3) dL_law_1350 (by omega) (by omega) ?_
  refine T_aload_s dL_law_1351 rfl ?_
  refine T_iload_n dL_law_1352 rfl ?_
  refine T_iconst dL_law_1353 (by decide) ?_
  refine T_add dL_law_1354 (by omega) ?_
  refine T_sld (j := k + 4) dL_law_1355 (by omega) (by omega) ?_
  refine T_aload_s dL_law_1356 rfl ?_
  refine T_iload_n dL_law_1357 rfl ?_
  refine T_iconst dL_law_1358 (by decide) ?_
  refine T_add dL_law_1359 (by omega) ?_
  refine T_sld (j := k + 5) dL_law_1360 (by omega) (by omega) ?_
  refine T_callV dL_law_1361 lL_112 (As := [_, _, _, _, _]) (rest := _) rfl rfl k1 (by decide) (Nat.le_of_ble_eq_true rfl) (Nat.le_of_ble_eq_true rfl) (t_C_drawn h.ms h.cs) ?_
  rintro _ d1 ⟨rfl, f1⟩
  have hI1 := IV_cf h f1
  have h272 : d1 272 = d 272 := funext fun j => f1 _ _ (by omega)
  refine T_aload_n dL_law_1364 rfl ?_
  refine T_aload_s dL_law_1365 rfl ?_
  refine T_iload_n dL_law_1366 rfl ?_
  refine T_iconst dL_law_1367 (by decide) ?_
  refine T_add dL_law_1368 (by omega) ?_
  refine T_sld (j := k + 1) dL_law_1369 (by omega) (by omega) ?_
  refine T_aload_s dL_law_1370 rfl ?_
  refine T_iload_n dL_law_1371 rfl ?_
  refine T_iconst dL_law_1372 (by decide) ?_
  refine T_add dL_law_1373 (by omega) ?_
  refine T_sld (j := k + 2) dL_law_1374 (by omega) (by omega) ?_
  refine T_aload_s dL_law_1375 rfl ?_
  refine T_iload_n dL_law_1376 rfl ?_
  refine T_iconst dL_law_1377 (by decide) ?_
  refine T_add dL_law_1378 (by omega) ?_
  refine T_sld (j := k + 3) dL_law_1379 (by omega) (by omega) ?_
  refine T_aload_s dL_law_1380 rfl ?_
  refine T_iload_n dL_law_1381 rfl ?_
  refine T_iconst dL_law_1382 (by decide) ?_
  refine T_add dL_law_1383 (by omega) ?_
  refine T_sld (j := k + 4) dL_law_1384 (by omega) (by omega) ?_
  refine T_aload_s dL_law_1385 rfl ?_
  refine T_iload_n dL_law_1386 rfl ?_
  refine T_iconst dL_law_1387 (by decide) ?_
  refine T_add dL_law_1388 (by omega) ?_
  refine T_sld (j := k + 5) dL_law_1389 (by omega) (by omega) ?_
  refine T_callV dL_law_1390 lL_115 (As := [_, _, _, _, _]) (rest := _) rfl rfl k271 (by decide) (Nat.le_of_ble_eq_true rfl) (Nat.le_of_ble_eq_true rfl) (t_X12_drawn hI1.ms) ?_
  rintro _ d2 ⟨rfl, f2⟩
  have hI2 := IV_ag hI1 f2 (by decide)
  have hv : v_drawn (d1 272) (sc G (k + 1)) (sc G (k + 2)) (sc G (k + 3)) (sc G (k + 4)) (sc G (k + 5)) = v_drawn (d 272) (sc G (k + 1)) (sc G (k + 2)) (sc G (k + 3)) (sc G (k + 4)) (sc G (k + 5)) := by rw [h272]
  refine T_icmp_eq (tgt := 1718) dL_law_1393 (by decide) (fun c1393 => ?_) (fun c1393 => absurd hv.symm c1393)
  exact kk d2 hI2

theorem lc_common {k : Nat} (h : IV d) (hL : G.2.2.1 ≤ 3072) (hk : k + 6 ≤ G.2.2.1) (kk : ∀ d2, IV d2 → tB G mL_law 1718 (lwL k) [] d2 lwR) : tB G mL_law 1398 (lwL k) [] d lwR := by
  refine T_aload_n dL_law_1398 rfl ?_
  refine T_aload_s dL_law_1399 rfl ?_
  refine T_iload_n dL_law_1400 rfl ?_
  refine T_iconst dL_law_1401 (by decide) ?_
  refine T_add dL_law_1402 (by omega) ?_
  refine T_sld (j := k + 1) dL_law_1403 (by omega) (by omega) ?_
  refine T_aload_s dL_law_1404 rfl ?_
  refine T_iload_n dL_law_1405 rfl ?_
  refine T_iconst dL_law_1406 (by decide) ?_
  refine T_add dL_law_1407 (by omega) ?_
  refine T_sld (j := k + 2) dL_law_1408 (by omega) (by omega) ?_
  refine T_aload_s dL_law_1409 rfl ?_
  refine T_iload_n dL_law_1410 rfl ?_
  refine T_iconst dL_law_1411 (by decide) ?_
  refine T_add dL_law_1412 (by omega) ?_
  refine T_sld (j := k + 3) dL_law_1413 (by omega) (by omega) ?_
  refine T_callV dL_law_1414 lL_116 (As := [_, _, _]) (rest := _) rfl rfl k1 (by decide) (Nat.le_of_ble_eq_true rfl) (Nat.le_of_ble_eq_true rfl) (t_C_common h.ms h.cs) ?_
  rintro _ d1 ⟨rfl, f1⟩
  have hI1 := IV_cf h f1
  have h272 : d1 272 = d 272 := funext fun j => f1 _ _ (by omega)
  refine T_aload_n dL_law_1417 rfl ?_
  refine T_aload_s dL_law_1418 rfl ?_
  refine T_iload_n dL_law_1419 rfl ?_
  refine T_iconst dL_law_1420 (by decide) ?_
  refine T_add dL_law_1421 (by omega) ?_
  refine T_sld (j := k + 1) dL_law_1422 (by omega) (by omega) ?_
  refine T_aload_s dL_law_1423 rfl ?_
  refine T_iload_n dL_law_1424 rfl ?_
  refine T_iconst dL_law_1425 (by decide) ?_
  refine T_add dL_law_1426 (by omega) ?_
  refine T_sld (j := k + 2) dL_law_1427 (by omega) (by omega) ?_
  refine T_aload_s dL_law_1428 rfl ?_
  refine T_iload_n dL_law_1429 rfl ?_
  refine T_iconst dL_law_1430 (by decide) ?_
  refine T_add dL_law_1431 (by omega) ?_
  refine T_sld (j := k + 3) dL_law_1432 (by omega) (by omega) ?_
  refine T_callV dL_law_1433 lL_119 (As := [_, _, _]) (rest := _) rfl rfl k271 (by decide) (Nat.le_of_ble_eq_true rfl) (Nat.le_of_ble_eq_true rfl) (t_X12_common hI1.ms) ?_
  rintro _ d2 ⟨rfl, f2⟩
  have hI2 := IV_ag hI1 f2 (by decide)
  have hv : v_common (d1 272) (sc G (k + 1)) (sc G (k + 2)) (sc G (k + 3)) = v_common (d 272) (sc G (k + 1)) (sc G (k + 2)) (sc G (k + 3)) := by rw [h272]
  refine T_icmp_eq (tgt := 1718) dL_law_1436 (by decide) (fun c1436 => ?_) (fun c1436 => absurd hv.symm c1436)
  exact kk d2 hI2

theorem lc_readings {k : Nat} (h : IV d) (hL : G.2.2.1 ≤ 3072) (hk : k + 6 ≤ G.2.2.1) (kk : ∀ d2, IV d2 → tB G mL_law 1718 (lwL k) [] d2 lwR) : tB G mL_law 1441 (lwL k) [] d lwR := by
  by_cases hb : (sc G (k + 4)) = 0
  ·
    refine T_aload_n dL_law_1441 rfl ?_
    refine T_aload_s dL_law_1442 rfl ?_
    refine T_iload_n dL_law_1443 rfl ?_
    refine T_iconst dL_law_1444 (by decide) ?_
    refine T_add dL_law_1445 (by omega) ?_
    refine T_sld (j := k + 1) dL_law_1446 (by omega) (by omega) ?_
    refine T_aload_s dL_law_1447 rfl ?_
    refine T_iload_n dL_law_1448 rfl ?_
    refine T_iconst dL_law_1449 (by decide) ?_
    refine T_add dL_law_1450 (by omega) ?_
    refine T_sld (j := k + 2) dL_law_1451 (by omega) (by omega) ?_
    refine T_aload_s dL_law_1452 rfl ?_
    refine T_iload_n dL_law_1453 rfl ?_
    refine T_iconst dL_law_1454 (by decide) ?_
    refine T_add dL_law_1455 (by omega) ?_
    refine T_sld (j := k + 3) dL_law_1456 (by omega) (by omega) ?_
    refine T_aload_s dL_law_1457 rfl ?_
    refine T_iload_n dL_law_1458 rfl ?_
    refine T_iconst dL_law_1459 (by decide) ?_
    refine T_add dL_law_1460 (by omega) ?_
    refine T_sld (j := k + 4) dL_law_1461 (by omega) (by omega) ?_
    refine T_if_eq (tgt := 1469) dL_law_1462 (by decide) (fun c1462 => ?_) (fun c1462 => absurd hb c1462)
    refine T_iconst dL_law_1469 (by decide) ?_
    refine T_callV dL_law_1470 lL_120 (As := [_, _, _, _]) (rest := _) rfl rfl k1 (by decide) (Nat.le_of_ble_eq_true rfl) (Nat.le_of_ble_eq_true rfl) (t_C_readings h.ms h.cs) ?_
    rintro _ d1 ⟨rfl, f1⟩
    have hI1 := IV_cf h f1
    have h272 : d1 272 = d 272 := funext fun j => f1 _ _ (by omega)
    refine T_aload_n dL_law_1473 rfl ?_
    refine T_aload_s dL_law_1474 rfl ?_
    refine T_iload_n dL_law_1475 rfl ?_
    refine T_iconst dL_law_1476 (by decide) ?_
    refine T_add dL_law_1477 (by omega) ?_
    refine T_sld (j := k + 1) dL_law_1478 (by omega) (by omega) ?_
    refine T_aload_s dL_law_1479 rfl ?_
    refine T_iload_n dL_law_1480 rfl ?_
    refine T_iconst dL_law_1481 (by decide) ?_
    refine T_add dL_law_1482 (by omega) ?_
    refine T_sld (j := k + 2) dL_law_1483 (by omega) (by omega) ?_
    refine T_aload_s dL_law_1484 rfl ?_
    refine T_iload_n dL_law_1485 rfl ?_
    refine T_iconst dL_law_1486 (by decide) ?_
    refine T_add dL_law_1487 (by omega) ?_
    refine T_sld (j := k + 3) dL_law_1488 (by omega) (by omega) ?_
    refine T_aload_s dL_law_1489 rfl ?_
    refine T_iload_n dL_law_1490 rfl ?_
    refine T_iconst dL_law_1491 (by decide) ?_
    refine T_add dL_law_1492 (by omega) ?_
    refine T_sld (j := k + 4) dL_law_1493 (by omega) (by omega) ?_
    refine T_if_eq (tgt := 1501) dL_law_1494 (by decide) (fun c1494 => ?_) (fun c1494 => absurd hb c1494)
    refine T_iconst dL_law_1501 (by decide) ?_
    refine T_callV dL_law_1502 lL_124 (As := [_, _, _, _]) (rest := _) rfl rfl k271 (by decide) (Nat.le_of_ble_eq_true rfl) (Nat.le_of_ble_eq_true rfl) (t_X12_readings hI1.ms) ?_
    rintro _ d2 ⟨rfl, f2⟩
    have hI2 := IV_ag hI1 f2 (by decide)
    have hv : v_readings (d1 272) (sc G (k + 1)) (sc G (k + 2)) (sc G (k + 3)) 0 = v_readings (d 272) (sc G (k + 1)) (sc G (k + 2)) (sc G (k + 3)) 0 := by rw [h272]
    refine T_lcmp dL_law_1505 ?_
    refine T_if_eq (tgt := 1718) dL_law_1506 (by decide) (fun c1506 => ?_) (fun c1506 => absurd (cmpZ_e.mpr hv.symm) c1506)
    exact kk d2 hI2
  ·
    refine T_aload_n dL_law_1441 rfl ?_
    refine T_aload_s dL_law_1442 rfl ?_
    refine T_iload_n dL_law_1443 rfl ?_
    refine T_iconst dL_law_1444 (by decide) ?_
    refine T_add dL_law_1445 (by omega) ?_
    refine T_sld (j := k + 1) dL_law_1446 (by omega) (by omega) ?_
    refine T_aload_s dL_law_1447 rfl ?_
    refine T_iload_n dL_law_1448 rfl ?_
    refine T_iconst dL_law_1449 (by decide) ?_
    refine T_add dL_law_1450 (by omega) ?_
    refine T_sld (j := k + 2) dL_law_1451 (by omega) (by omega) ?_
    refine T_aload_s dL_law_1452 rfl ?_
    refine T_iload_n dL_law_1453 rfl ?_
    refine T_iconst dL_law_1454 (by decide) ?_
    refine T_add dL_law_1455 (by omega) ?_
    refine T_sld (j := k + 3) dL_law_1456 (by omega) (by omega) ?_
    refine T_aload_s dL_law_1457 rfl ?_
    refine T_iload_n dL_law_1458 rfl ?_
    refine T_iconst dL_law_1459 (by decide) ?_
    refine T_add dL_law_1460 (by omega) ?_
    refine T_sld (j := k + 4) dL_law_1461 (by omega) (by omega) ?_
    refine T_if_eq (tgt := 1469) dL_law_1462 (by decide) (fun c1462 => absurd c1462 hb) (fun c1462 => ?_)
    refine T_iconst dL_law_1465 (by decide) ?_
    refine T_goto (tgt := 1470) dL_law_1466 (by decide) ?_
    refine T_callV dL_law_1470 lL_120 (As := [_, _, _, _]) (rest := _) rfl rfl k1 (by decide) (Nat.le_of_ble_eq_true rfl) (Nat.le_of_ble_eq_true rfl) (t_C_readings h.ms h.cs) ?_
    rintro _ d1 ⟨rfl, f1⟩
    have hI1 := IV_cf h f1
    have h272 : d1 272 = d 272 := funext fun j => f1 _ _ (by omega)
    refine T_aload_n dL_law_1473 rfl ?_
    refine T_aload_s dL_law_1474 rfl ?_
    refine T_iload_n dL_law_1475 rfl ?_
    refine T_iconst dL_law_1476 (by decide) ?_
    refine T_add dL_law_1477 (by omega) ?_
    refine T_sld (j := k + 1) dL_law_1478 (by omega) (by omega) ?_
    refine T_aload_s dL_law_1479 rfl ?_
    refine T_iload_n dL_law_1480 rfl ?_
    refine T_iconst dL_law_1481 (by decide) ?_
    refine T_add dL_law_1482 (by omega) ?_
    refine T_sld (j := k + 2) dL_law_1483 (by omega) (by omega) ?_
    refine T_aload_s dL_law_1484 rfl ?_
    refine T_iload_n dL_law_1485 rfl ?_
    refine T_iconst dL_law_1486 (by decide) ?_
    refine T_add dL_law_1487 (by omega) ?_
    refine T_sld (j := k + 3) dL_law_1488 (by omega) (by omega) ?_
    refine T_aload_s dL_law_1489 rfl ?_
    refine T_iload_n dL_law_1490 rfl ?_
    refine T_iconst dL_law_1491 (by decide) ?_
    refine T_add dL_law_1492 (by omega) ?_
    refine T_sld (j := k + 4) dL_law_1493 (by omega) (by omega) ?_
    refine T_if_eq (tgt := 1501) dL_law_1494 (by decide) (fun c1494 => absurd c1494 hb) (fun c1494 => ?_)
    refine T_iconst dL_law_1497 (by decide) ?_
    refine T_goto (tgt := 1502) dL_law_1498 (by decide) ?_
    refine T_callV dL_law_1502 lL_124 (As := [_, _, _, _]) (rest := _) rfl rfl k271 (by decide) (Nat.le_of_ble_eq_true rfl) (Nat.le_of_ble_eq_true rfl) (t_X12_readings hI1.ms) ?_
    rintro _ d2 ⟨rfl, f2⟩
    have hI2 := IV_ag hI1 f2 (by decide)
    have hv : v_readings (d1 272) (sc G (k + 1)) (sc G (k + 2)) (sc G (k + 3)) 1 = v_readings (d 272) (sc G (k + 1)) (sc G (k + 2)) (sc G (k + 3)) 1 := by rw [h272]
    refine T_lcmp dL_law_1505 ?_
    refine T_if_eq (tgt := 1718) dL_law_1506 (by decide) (fun c1506 => ?_) (fun c1506 => absurd (cmpZ_e.mpr hv.symm) c1506)
    exact kk d2 hI2

theorem lc_fix {k : Nat} (h : IV d) (hL : G.2.2.1 ≤ 3072) (hk : k + 6 ≤ G.2.2.1) (kk : ∀ d2, IV d2 → tB G mL_law 1718 (lwL k) [] d2 lwR) : tB G mL_law 1570 (lwL k) [] d lwR := by
  by_cases hb : (sc G (k + 5)) = 0
  ·
    refine T_aload_n dL_law_1570 rfl ?_
    refine T_aload_s dL_law_1571 rfl ?_
    refine T_iload_n dL_law_1572 rfl ?_
    refine T_iconst dL_law_1573 (by decide) ?_
    refine T_add dL_law_1574 (by omega) ?_
    refine T_sld (j := k + 1) dL_law_1575 (by omega) (by omega) ?_
    refine T_aload_s dL_law_1576 rfl ?_
    refine T_iload_n dL_law_1577 rfl ?_
    refine T_iconst dL_law_1578 (by decide) ?_
    refine T_add dL_law_1579 (by omega) ?_
    refine T_sld (j := k + 2) dL_law_1580 (by omega) (by omega) ?_
    refine T_aload_s dL_law_1581 rfl ?_
    refine T_iload_n dL_law_1582 rfl ?_
    refine T_iconst dL_law_1583 (by decide) ?_
    refine T_add dL_law_1584 (by omega) ?_
    refine T_sld (j := k + 3) dL_law_1585 (by omega) (by omega) ?_
    refine T_aload_s dL_law_1586 rfl ?_
    refine T_iload_n dL_law_1587 rfl ?_
    refine T_iconst dL_law_1588 (by decide) ?_
    refine T_add dL_law_1589 (by omega) ?_
    refine T_sld (j := k + 4) dL_law_1590 (by omega) (by omega) ?_
    refine T_aload_s dL_law_1591 rfl ?_
    refine T_iload_n dL_law_1592 rfl ?_
    refine T_iconst dL_law_1593 (by decide) ?_
    refine T_add dL_law_1594 (by omega) ?_
    refine T_sld (j := k + 5) dL_law_1595 (by omega) (by omega) ?_
    refine T_if_eq (tgt := 1603) dL_law_1596 (by decide) (fun c1596 => ?_) (fun c1596 => absurd hb c1596)
    refine T_iconst dL_law_1603 (by decide) ?_
    refine T_callV dL_law_1604 lL_130 (As := [_, _, _, _, _]) (rest := _) rfl rfl k1 (by decide) (Nat.le_of_ble_eq_true rfl) (Nat.le_of_ble_eq_true rfl) (t_C_fix h.ms h.cs) ?_
    rintro _ d1 ⟨rfl, f1⟩
    have hI1 := IV_cf h f1
    have h272 : d1 272 = d 272 := funext fun j => f1 _ _ (by omega)
    refine T_aload_n dL_law_1607 rfl ?_
    refine T_aload_s dL_law_1608 rfl ?_
    refine T_iload_n dL_law_1609 rfl ?_
    refine T_iconst dL_law_1610 (by decide) ?_
    refine T_add dL_law_1611 (by omega) ?_
    refine T_sld (j := k + 1) dL_law_1612 (by omega) (by omega) ?_
    refine T_aload_s dL_law_1613 rfl ?_
    refine T_iload_n dL_law_1614 rfl ?_
    refine T_iconst dL_law_1615 (by decide) ?_
    refine T_add dL_law_1616 (by omega) ?_
    refine T_sld (j := k + 2) dL_law_1617 (by omega) (by omega) ?_
    refine T_aload_s dL_law_1618 rfl ?_
    refine T_iload_n dL_law_1619 rfl ?_
    refine T_iconst dL_law_1620 (by decide) ?_
    refine T_add dL_law_1621 (by omega) ?_
    refine T_sld (j := k + 3) dL_law_1622 (by omega) (by omega) ?_
    refine T_aload_s dL_law_1623 rfl ?_
    refine T_iload_n dL_law_1624 rfl ?_
    refine T_iconst dL_law_1625 (by decide) ?_
    refine T_add dL_law_1626 (by omega) ?_
    refine T_sld (j := k + 4) dL_law_1627 (by omega) (by omega) ?_
    refine T_aload_s dL_law_1628 rfl ?_
    refine T_iload_n dL_law_1629 rfl ?_
    refine T_iconst dL_law_1630 (by decide) ?_
    refine T_add dL_law_1631 (by omega) ?_
    refine T_sld (j := k + 5) dL_law_1632 (by omega) (by omega) ?_
    refine T_if_eq (tgt := 1640) dL_law_1633 (by decide) (fun c1633 => ?_) (fun c1633 => absurd hb c1633)
    refine T_iconst dL_law_1640 (by decide) ?_
    refine T_callV dL_law_1641 lL_133 (As := [_, _, _, _, _]) (rest := _) rfl rfl k271 (by decide) (Nat.le_of_ble_eq_true rfl) (Nat.le_of_ble_eq_true rfl) (t_X12_fix hI1.ms) ?_
    rintro _ d2 ⟨rfl, f2⟩
    have hI2 := IV_ag hI1 f2 (by decide)
    have hv : v_fix (d1 272) (sc G (k + 1)) (sc G (k + 2)) (sc G (k + 3)) (sc G (k + 4)) 0 = v_fix (d 272) (sc G (k + 1)) (sc G (k + 2)) (sc G (k + 3)) (sc G (k + 4)) 0 := by rw [h272]
    refine T_icmp_eq (tgt := 1718) dL_law_1644 (by decide) (fun c1644 => ?_) (fun c1644 => absurd hv.symm c1644)
    exact kk d2 hI2
  ·
    refine T_aload_n dL_law_1570 rfl ?_
    refine T_aload_s dL_law_1571 rfl ?_
    refine T_iload_n dL_law_1572 rfl ?_
    refine T_iconst dL_law_1573 (by decide) ?_
    refine T_add dL_law_1574 (by omega) ?_
    refine T_sld (j := k + 1) dL_law_1575 (by omega) (by omega) ?_
    refine T_aload_s dL_law_1576 rfl ?_
    refine T_iload_n dL_law_1577 rfl ?_
    refine T_iconst dL_law_1578 (by decide) ?_
    refine T_add dL_law_1579 (by omega) ?_
    refine T_sld (j := k + 2) dL_law_1580 (by omega) (by omega) ?_
    refine T_aload_s dL_law_1581 rfl ?_
    refine T_iload_n dL_law_1582 rfl ?_
    refine T_iconst dL_law_1583 (by decide) ?_
    refine T_add dL_law_1584 (by omega) ?_
    refine T_sld (j := k + 3) dL_law_1585 (by omega) (by omega) ?_
    refine T_aload_s dL_law_1586 rfl ?_
    refine T_iload_n dL_law_1587 rfl ?_
    refine T_iconst dL_law_1588 (by decide) ?_
    refine T_add dL_law_1589 (by omega) ?_
    refine T_sld (j := k + 4) dL_law_1590 (by omega) (by omega) ?_
    refine T_aload_s dL_law_1591 rfl ?_
    refine T_iload_n dL_law_1592 rfl ?_
    refine T_iconst dL_law_1593 (by decide) ?_
    refine T_add dL_law_1594 (by omega) ?_
    refine T_sld (j := k + 5) dL_law_1595 (by omega) (by omega) ?_
    refine T_if_eq (tgt := 1603) dL_law_1596 (by decide) (fun c1596 => absurd c1596 hb) (fun c1596 => ?_)
    refine T_iconst dL_law_1599 (by decide) ?_
    refine T_goto (tgt := 1604) dL_law_1600 (by decide) ?_
    refine T_callV dL_law_1604 lL_130 (As := [_, _, _, _, _]) (rest := _) rfl rfl k1 (by decide) (Nat.le_of_ble_eq_true rfl) (Nat.le_of_ble_eq_true rfl) (t_C_fix h.ms h.cs) ?_
    rintro _ d1 ⟨rfl, f1⟩
    have hI1 := IV_cf h f1
    have h272 : d1 272 = d 272 := funext fun j => f1 _ _ (by omega)
    refine T_aload_n dL_law_1607 rfl ?_
    refine T_aload_s dL_law_1608 rfl ?_
    refine T_iload_n dL_law_1609 rfl ?_
    refine T_iconst dL_law_1610 (by decide) ?_
    refine T_add dL_law_1611 (by omega) ?_
    refine T_sld (j := k + 1) dL_law_1612 (by omega) (by omega) ?_
    refine T_aload_s dL_law_1613 rfl ?_
    refine T_iload_n dL_law_1614 rfl ?_
    refine T_iconst dL_law_1615 (by decide) ?_
    refine T_add dL_law_1616 (by omega) ?_
    refine T_sld (j := k + 2) dL_law_1617 (by omega) (by omega) ?_
    refine T_aload_s dL_law_1618 rfl ?_
    refine T_iload_n dL_law_1619 rfl ?_
    refine T_iconst dL_law_1620 (by decide) ?_
    refine T_add dL_law_1621 (by omega) ?_
    refine T_sld (j := k + 3) dL_law_1622 (by omega) (by omega) ?_
    refine T_aload_s dL_law_1623 rfl ?_
    refine T_iload_n dL_law_1624 rfl ?_
    refine T_iconst dL_law_1625 (by decide) ?_
    refine T_add dL_law_1626 (by omega) ?_
    refine T_sld (j := k + 4) dL_law_1627 (by omega) (by omega) ?_
    refine T_aload_s dL_law_1628 rfl ?_
    refine T_iload_n dL_law_1629 rfl ?_
    refine T_iconst dL_law_1630 (by decide) ?_
    refine T_add dL_law_1631 (by omega) ?_
    refine T_sld (j := k + 5) dL_law_1632 (by omega) (by omega) ?_
    refine T_if_eq (tgt := 1640) dL_law_1633 (by decide) (fun c1633 => absurd c1633 hb) (fun c1633 => ?_)
    refine T_iconst dL_law_1636 (by decide) ?_
    refine T_goto (tgt := 1641) dL_law_1637 (by decide) ?_
    refine T_callV dL_law_1641 lL_133 (As := [_, _, _, _, _]) (rest := _) rfl rfl k271 (by decide) (Nat.le_of_ble_eq_true rfl) (Nat.le_of_ble_eq_true rfl) (t_X12_fix hI1.ms) ?_
    rintro _ d2 ⟨rfl, f2⟩
    have hI2 := IV_ag hI1 f2 (by decide)
    have hv : v_fix (d1 272) (sc G (k + 1)) (sc G (k + 2)) (sc G (k + 3)) (sc G (k + 4)) 1 = v_fix (d 272) (sc G (k + 1)) (sc G (k + 2)) (sc G (k + 3)) (sc G (k + 4)) 1 := by rw [h272]
    refine T_icmp_eq (tgt := 1718) dL_law_1644 (by decide) (fun c1644 => ?_) (fun c1644 => absurd hv.symm c1644)
    exact kk d2 hI2

end C26

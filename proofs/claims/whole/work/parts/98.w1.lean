/-! ===== the law: what the reference answers after the class ===== -/
section LW1
variable {Q : AH → AO → Prop} {h g : AH} {Z : ZT} {c L : Nat} {sc : Nat → Int} {mc ms bc bs : Nat} {i k : Int}
set_option maxHeartbeats 1000000 in
theorem lw2_schema (J : LK sc L g Z c) (hL9 : L < 2147483648) (hi : 0 ≤ i ∧ i + 6 ≤ (L : Int)) (hE : Z 0 0 = 4 → k = 1 ∧ SIM g Z c) (hO : Z 0 0 < 4 → k = 0 ∧ SIM g (zs (zs Z 48 0 0) 0 0 (Z 0 0 + 1)) c ∧ ZI (zs (zs Z 48 0 0) 0 0 (Z 0 0 + 1)) ∧ hL g nO 0 = Int64.ofInt (Z 0 0))
    (kk : ∀ h2 Z2, LK sc L h2 Z2 c → SIM h2 Z2 c → AW mL_law 14 548 mc ms Q bc bs 2094 h2 (lwl i) []) : AW mL_law 14 548 mc ms Q bc bs 165 g (lwl i) [vi k] := by
  have B := J.I.1.1
  refine AW.istore dL_law_165 rfl ?_
  refine AW.aload_n dL_law_167 rfl ?_
  refine AW.heq J.1 ?_
  refine AW.callV (as := []) dL_law_168 rfl rfl rfl okX8_schema lkL_112 J.W.1 rfl rfl rfl rfl b0 b0 rfl (kX8_schema J.W B.1 (fun e => ?_) (fun e => ?_))
  · obtain ⟨rfl, S⟩ := hE e
    have X := J.put (Y := zs Z 48 0 (1)) J.I.w48 (S.zj zs48_j)
    exact AW.k1 (law_tail dL_law_171 dL_law_173 dL_law_174 dL_law_177 dL_law_179 dL_law_184 dL_law_186 dL_law_189 dL_law_190 dL_law_191 dL_law_192 dL_law_194 dL_law_195 dL_law_196 dL_law_201 rfl J.W (zs_eq rfl rfl) (fun z => absurd z (by decide)) J.O (kk _ _ X.1 X.2))
  · obtain ⟨rfl, S, I2, ho⟩ := hO e
    have X := J.put I2 S
    exact AW.k1 (law_tail dL_law_171 dL_law_173 dL_law_174 dL_law_177 dL_law_179 dL_law_184 dL_law_186 dL_law_189 dL_law_190 dL_law_191 dL_law_192 dL_law_194 dL_law_195 dL_law_196 dL_law_201 rfl J.W (rfl) (fun _ => ho) J.O (kk _ _ X.1 X.2))
set_option maxHeartbeats 1000000 in
theorem lw2_add (J : LK sc L g Z c) (hL9 : L < 2147483648) (hi : 0 ≤ i ∧ i + 6 ≤ (L : Int)) (hE : 0 < zcAdd Z (sc (i + 1).toNat) (sc (i + 2).toNat) (sc (i + 3).toNat) (sc (i + 4).toNat) → k = zcAdd Z (sc (i + 1).toNat) (sc (i + 2).toNat) (sc (i + 3).toNat) (sc (i + 4).toNat) ∧ SIM g Z c) (hO : zcAdd Z (sc (i + 1).toNat) (sc (i + 2).toNat) (sc (i + 3).toNat) (sc (i + 4).toNat) = 0 → k = 0 ∧ SIM g (zAdd Z (sc (i + 1).toNat) (sc (i + 2).toNat) (sc (i + 3).toNat) (sc (i + 4).toNat) (nzi (sc (i + 5).toNat))) c ∧ ZI (zAdd Z (sc (i + 1).toNat) (sc (i + 2).toNat) (sc (i + 3).toNat) (sc (i + 4).toNat) (nzi (sc (i + 5).toNat))) ∧ hL g nO 0 = Int64.ofInt (Z 2 ((sc (i + 1).toNat)).toNat))
    (kk : ∀ h2 Z2, LK sc L h2 Z2 c → SIM h2 Z2 c → AW mL_law 14 548 mc ms Q bc bs 2094 h2 (lwl i) []) : AW mL_law 14 548 mc ms Q bc bs 247 g (lwl i) [vi k] := by
  have B := J.I.1.1
  refine AW.istore dL_law_247 rfl ?_
  refine AW.aload_n dL_law_249 rfl ?_
  refine AW.sarg J.S9 hL9 hi (by decide) rfl rfl dL_law_250 dL_law_251 dL_law_253 dL_law_254 dL_law_255 ?_
  refine AW.sarg J.S9 hL9 hi (by decide) rfl rfl dL_law_256 dL_law_257 dL_law_259 dL_law_260 dL_law_261 ?_
  refine AW.sarg J.S9 hL9 hi (by decide) rfl rfl dL_law_262 dL_law_263 dL_law_265 dL_law_266 dL_law_267 ?_
  refine AW.sarg J.S9 hL9 hi (by decide) rfl rfl dL_law_268 dL_law_269 dL_law_271 dL_law_272 dL_law_273 ?_
  refine AW.sarg J.S9 hL9 hi (by decide) rfl rfl dL_law_274 dL_law_275 dL_law_277 dL_law_278 dL_law_279 ?_
  refine AW.nz dL_law_280 dL_law_283 dL_law_284 dL_law_287 ?_
  refine AW.heq J.1 ?_
  refine AW.callV (as := [vi _, vi _, vi _, vi _, vi _]) dL_law_288 rfl rfl rfl okX8_add lkL_119 J.W.1 rfl rfl rfl rfl b0 b0 rfl (kX8_add J.W B.1 B.2.1 (nz01 _) (fun e => ?_) (fun e => ?_))
  · obtain ⟨rfl, S⟩ := hE e
    have X := J.put (Y := zs Z 48 0 (zcAdd Z (sc (i + 1).toNat) (sc (i + 2).toNat) (sc (i + 3).toNat) (sc (i + 4).toNat))) J.I.w48 (S.zj zs48_j)
    exact AW.k1 (law_tail dL_law_291 dL_law_293 dL_law_294 dL_law_297 dL_law_299 dL_law_304 dL_law_306 dL_law_309 dL_law_310 dL_law_311 dL_law_312 dL_law_314 dL_law_315 dL_law_316 dL_law_321 rfl J.W (zs_eq rfl rfl) (fun z => absurd z (by omega)) J.O (kk _ _ X.1 X.2))
  · obtain ⟨rfl, S, I2, ho⟩ := hO e
    have X := J.put I2 S
    exact AW.k1 (law_tail dL_law_291 dL_law_293 dL_law_294 dL_law_297 dL_law_299 dL_law_304 dL_law_306 dL_law_309 dL_law_310 dL_law_311 dL_law_312 dL_law_314 dL_law_315 dL_law_316 dL_law_321 rfl J.W (th_add) (fun _ => ho) J.O (kk _ _ X.1 X.2))
set_option maxHeartbeats 1000000 in
theorem lw2_rename (J : LK sc L g Z c) (hL9 : L < 2147483648) (hi : 0 ≤ i ∧ i + 6 ≤ (L : Int)) (hE : 0 < zcRen Z (sc (i + 1).toNat) (sc (i + 2).toNat) (sc (i + 3).toNat) → k = zcRen Z (sc (i + 1).toNat) (sc (i + 2).toNat) (sc (i + 3).toNat) ∧ SIM g Z c) (hO : zcRen Z (sc (i + 1).toNat) (sc (i + 2).toNat) (sc (i + 3).toNat) = 0 → k = 0 ∧ SIM g (zRen Z (sc (i + 1).toNat) (sc (i + 2).toNat) (sc (i + 3).toNat)) c ∧ ZI (zRen Z (sc (i + 1).toNat) (sc (i + 2).toNat) (sc (i + 3).toNat)) ∧ hL g nO 0 = Int64.ofInt (Z 1 ((sc (i + 1).toNat)).toNat + 1))
    (kk : ∀ h2 Z2, LK sc L h2 Z2 c → SIM h2 Z2 c → AW mL_law 14 548 mc ms Q bc bs 2094 h2 (lwl i) []) : AW mL_law 14 548 mc ms Q bc bs 347 g (lwl i) [vi k] := by
  have B := J.I.1.1
  refine AW.istore dL_law_347 rfl ?_
  refine AW.aload_n dL_law_349 rfl ?_
  refine AW.sarg J.S9 hL9 hi (by decide) rfl rfl dL_law_350 dL_law_351 dL_law_353 dL_law_354 dL_law_355 ?_
  refine AW.sarg J.S9 hL9 hi (by decide) rfl rfl dL_law_356 dL_law_357 dL_law_359 dL_law_360 dL_law_361 ?_
  refine AW.sarg J.S9 hL9 hi (by decide) rfl rfl dL_law_362 dL_law_363 dL_law_365 dL_law_366 dL_law_367 ?_
  refine AW.heq J.1 ?_
  refine AW.callV (as := [vi _, vi _, vi _]) dL_law_368 rfl rfl rfl okX8_rename lkL_123 J.W.1 rfl rfl rfl rfl b0 b0 rfl (kX8_rename J.W B.1 B.2.1 (fun e => ?_) (fun e => ?_))
  · obtain ⟨rfl, S⟩ := hE e
    have X := J.put (Y := zs Z 48 0 (zcRen Z (sc (i + 1).toNat) (sc (i + 2).toNat) (sc (i + 3).toNat))) J.I.w48 (S.zj zs48_j)
    exact AW.k1 (law_tail dL_law_371 dL_law_373 dL_law_374 dL_law_377 dL_law_379 dL_law_384 dL_law_386 dL_law_389 dL_law_390 dL_law_391 dL_law_392 dL_law_394 dL_law_395 dL_law_396 dL_law_401 rfl J.W (zs_eq rfl rfl) (fun z => absurd z (by omega)) J.O (kk _ _ X.1 X.2))
  · obtain ⟨rfl, S, I2, ho⟩ := hO e
    have X := J.put I2 S
    exact AW.k1 (law_tail dL_law_371 dL_law_373 dL_law_374 dL_law_377 dL_law_379 dL_law_384 dL_law_386 dL_law_389 dL_law_390 dL_law_391 dL_law_392 dL_law_394 dL_law_395 dL_law_396 dL_law_401 rfl J.W (th_ren) (fun _ => ho) J.O (kk _ _ X.1 X.2))
set_option maxHeartbeats 1000000 in
theorem lw2_turn (J : LK sc L g Z c) (hL9 : L < 2147483648) (hi : 0 ≤ i ∧ i + 6 ≤ (L : Int)) (hE : 0 < zcTur Z (sc (i + 1).toNat) (sc (i + 2).toNat) (sc (i + 3).toNat) → k = zcTur Z (sc (i + 1).toNat) (sc (i + 2).toNat) (sc (i + 3).toNat) ∧ SIM g Z c) (hO : zcTur Z (sc (i + 1).toNat) (sc (i + 2).toNat) (sc (i + 3).toNat) = 0 → k = 0 ∧ SIM g (zTur Z (sc (i + 1).toNat) (sc (i + 2).toNat) (sc (i + 3).toNat)) c ∧ ZI (zTur Z (sc (i + 1).toNat) (sc (i + 2).toNat) (sc (i + 3).toNat)) ∧ hL g nO 0 = Int64.ofInt (Z 2 ((sc (i + 1).toNat)).toNat))
    (kk : ∀ h2 Z2, LK sc L h2 Z2 c → SIM h2 Z2 c → AW mL_law 14 548 mc ms Q bc bs 2094 h2 (lwl i) []) : AW mL_law 14 548 mc ms Q bc bs 427 g (lwl i) [vi k] := by
  have B := J.I.1.1
  refine AW.istore dL_law_427 rfl ?_
  refine AW.aload_n dL_law_429 rfl ?_
  refine AW.sarg J.S9 hL9 hi (by decide) rfl rfl dL_law_430 dL_law_431 dL_law_433 dL_law_434 dL_law_435 ?_
  refine AW.sarg J.S9 hL9 hi (by decide) rfl rfl dL_law_436 dL_law_437 dL_law_439 dL_law_440 dL_law_441 ?_
  refine AW.sarg J.S9 hL9 hi (by decide) rfl rfl dL_law_442 dL_law_443 dL_law_445 dL_law_446 dL_law_447 ?_
  refine AW.heq J.1 ?_
  refine AW.callV (as := [vi _, vi _, vi _]) dL_law_448 rfl rfl rfl okX8_turn lkL_126 J.W.1 rfl rfl rfl rfl b0 b0 rfl (kX8_turn J.W B.1 B.2.1 (fun e => ?_) (fun e => ?_))
  · obtain ⟨rfl, S⟩ := hE e
    have X := J.put (Y := zs Z 48 0 (zcTur Z (sc (i + 1).toNat) (sc (i + 2).toNat) (sc (i + 3).toNat))) J.I.w48 (S.zj zs48_j)
    exact AW.k1 (law_tail dL_law_451 dL_law_453 dL_law_454 dL_law_457 dL_law_459 dL_law_464 dL_law_466 dL_law_469 dL_law_470 dL_law_471 dL_law_472 dL_law_474 dL_law_475 dL_law_476 dL_law_481 rfl J.W (zs_eq rfl rfl) (fun z => absurd z (by omega)) J.O (kk _ _ X.1 X.2))
  · obtain ⟨rfl, S, I2, ho⟩ := hO e
    have X := J.put I2 S
    exact AW.k1 (law_tail dL_law_451 dL_law_453 dL_law_454 dL_law_457 dL_law_459 dL_law_464 dL_law_466 dL_law_469 dL_law_470 dL_law_471 dL_law_472 dL_law_474 dL_law_475 dL_law_476 dL_law_481 rfl J.W (th_tur) (fun _ => ho) J.O (kk _ _ X.1 X.2))
set_option maxHeartbeats 1000000 in
theorem lw2_split (J : LK sc L g Z c) (hL9 : L < 2147483648) (hi : 0 ≤ i ∧ i + 6 ≤ (L : Int)) (hE : 0 < zcSpl Z (sc (i + 1).toNat) (sc (i + 2).toNat) (sc (i + 3).toNat) (sc (i + 4).toNat) (sc (i + 5).toNat) → k = zcSpl Z (sc (i + 1).toNat) (sc (i + 2).toNat) (sc (i + 3).toNat) (sc (i + 4).toNat) (sc (i + 5).toNat) ∧ SIM g Z c) (hO : zcSpl Z (sc (i + 1).toNat) (sc (i + 2).toNat) (sc (i + 3).toNat) (sc (i + 4).toNat) (sc (i + 5).toNat) = 0 → k = 0 ∧ SIM g (zSpl Z (sc (i + 1).toNat) (sc (i + 2).toNat) (sc (i + 3).toNat) (sc (i + 4).toNat) (sc (i + 5).toNat)) c ∧ ZI (zSpl Z (sc (i + 1).toNat) (sc (i + 2).toNat) (sc (i + 3).toNat) (sc (i + 4).toNat) (sc (i + 5).toNat)) ∧ hL g nO 0 = Int64.ofInt (Z 2 ((sc (i + 1).toNat)).toNat))
    (kk : ∀ h2 Z2, LK sc L h2 Z2 c → SIM h2 Z2 c → AW mL_law 14 548 mc ms Q bc bs 2094 h2 (lwl i) []) : AW mL_law 14 548 mc ms Q bc bs 519 g (lwl i) [vi k] := by
  have B := J.I.1.1
  refine AW.istore dL_law_519 rfl ?_
  refine AW.aload_n dL_law_521 rfl ?_
  refine AW.sarg J.S9 hL9 hi (by decide) rfl rfl dL_law_522 dL_law_523 dL_law_525 dL_law_526 dL_law_527 ?_
  refine AW.sarg J.S9 hL9 hi (by decide) rfl rfl dL_law_528 dL_law_529 dL_law_531 dL_law_532 dL_law_533 ?_
  refine AW.sarg J.S9 hL9 hi (by decide) rfl rfl dL_law_534 dL_law_535 dL_law_537 dL_law_538 dL_law_539 ?_
  refine AW.sarg J.S9 hL9 hi (by decide) rfl rfl dL_law_540 dL_law_541 dL_law_543 dL_law_544 dL_law_545 ?_
  refine AW.sarg J.S9 hL9 hi (by decide) rfl rfl dL_law_546 dL_law_547 dL_law_549 dL_law_550 dL_law_551 ?_
  refine AW.heq J.1 ?_
  refine AW.callV (as := [vi _, vi _, vi _, vi _, vi _]) dL_law_552 rfl rfl rfl okX8_split lkL_130 J.W.1 rfl rfl rfl rfl b0 b0 rfl (kX8_split J.W B.1 B.2.1 B.2.2.2.2.2 (fun e => ?_) (fun e => ?_))
  · obtain ⟨rfl, S⟩ := hE e
    have X := J.put (Y := zs Z 48 0 (zcSpl Z (sc (i + 1).toNat) (sc (i + 2).toNat) (sc (i + 3).toNat) (sc (i + 4).toNat) (sc (i + 5).toNat))) J.I.w48 (S.zj zs48_j)
    exact AW.k1 (law_tail dL_law_555 dL_law_557 dL_law_558 dL_law_561 dL_law_563 dL_law_568 dL_law_570 dL_law_573 dL_law_574 dL_law_575 dL_law_576 dL_law_578 dL_law_579 dL_law_580 dL_law_585 rfl J.W (zs_eq rfl rfl) (fun z => absurd z (by omega)) J.O (kk _ _ X.1 X.2))
  · obtain ⟨rfl, S, I2, ho⟩ := hO e
    have X := J.put I2 S
    exact AW.k1 (law_tail dL_law_555 dL_law_557 dL_law_558 dL_law_561 dL_law_563 dL_law_568 dL_law_570 dL_law_573 dL_law_574 dL_law_575 dL_law_576 dL_law_578 dL_law_579 dL_law_580 dL_law_585 rfl J.W (th_spl) (fun _ => ho) J.O (kk _ _ X.1 X.2))
set_option maxHeartbeats 1000000 in
theorem lw2_join (J : LK sc L g Z c) (hL9 : L < 2147483648) (hi : 0 ≤ i ∧ i + 6 ≤ (L : Int)) (hE : 0 < zcJoi Z (sc (i + 1).toNat) (sc (i + 2).toNat) (sc (i + 3).toNat) (sc (i + 4).toNat) (sc (i + 5).toNat) → k = zcJoi Z (sc (i + 1).toNat) (sc (i + 2).toNat) (sc (i + 3).toNat) (sc (i + 4).toNat) (sc (i + 5).toNat) ∧ SIM g Z c) (hO : zcJoi Z (sc (i + 1).toNat) (sc (i + 2).toNat) (sc (i + 3).toNat) (sc (i + 4).toNat) (sc (i + 5).toNat) = 0 → k = 0 ∧ SIM g (zJoi Z (sc (i + 1).toNat) (sc (i + 2).toNat) (sc (i + 3).toNat) (sc (i + 4).toNat) (sc (i + 5).toNat)) c ∧ ZI (zJoi Z (sc (i + 1).toNat) (sc (i + 2).toNat) (sc (i + 3).toNat) (sc (i + 4).toNat) (sc (i + 5).toNat)) ∧ hL g nO 0 = Int64.ofInt (Z 2 ((sc (i + 1).toNat)).toNat))
    (kk : ∀ h2 Z2, LK sc L h2 Z2 c → SIM h2 Z2 c → AW mL_law 14 548 mc ms Q bc bs 2094 h2 (lwl i) []) : AW mL_law 14 548 mc ms Q bc bs 623 g (lwl i) [vi k] := by
  have B := J.I.1.1
  refine AW.istore dL_law_623 rfl ?_
  refine AW.aload_n dL_law_625 rfl ?_
  refine AW.sarg J.S9 hL9 hi (by decide) rfl rfl dL_law_626 dL_law_627 dL_law_629 dL_law_630 dL_law_631 ?_
  refine AW.sarg J.S9 hL9 hi (by decide) rfl rfl dL_law_632 dL_law_633 dL_law_635 dL_law_636 dL_law_637 ?_
  refine AW.sarg J.S9 hL9 hi (by decide) rfl rfl dL_law_638 dL_law_639 dL_law_641 dL_law_642 dL_law_643 ?_
  refine AW.sarg J.S9 hL9 hi (by decide) rfl rfl dL_law_644 dL_law_645 dL_law_647 dL_law_648 dL_law_649 ?_
  refine AW.sarg J.S9 hL9 hi (by decide) rfl rfl dL_law_650 dL_law_651 dL_law_653 dL_law_654 dL_law_655 ?_
  refine AW.heq J.1 ?_
  refine AW.callV (as := [vi _, vi _, vi _, vi _, vi _]) dL_law_656 rfl rfl rfl okX8_join lkL_133 J.W.1 rfl rfl rfl rfl b0 b0 rfl (kX8_join J.W B.1 B.2.1 (fun e => ?_) (fun e => ?_))
  · obtain ⟨rfl, S⟩ := hE e
    have X := J.put (Y := zs Z 48 0 (zcJoi Z (sc (i + 1).toNat) (sc (i + 2).toNat) (sc (i + 3).toNat) (sc (i + 4).toNat) (sc (i + 5).toNat))) J.I.w48 (S.zj zs48_j)
    exact AW.k1 (law_tail dL_law_659 dL_law_661 dL_law_662 dL_law_665 dL_law_667 dL_law_672 dL_law_674 dL_law_677 dL_law_678 dL_law_679 dL_law_680 dL_law_682 dL_law_683 dL_law_684 dL_law_689 rfl J.W (zs_eq rfl rfl) (fun z => absurd z (by omega)) J.O (kk _ _ X.1 X.2))
  · obtain ⟨rfl, S, I2, ho⟩ := hO e
    have X := J.put I2 S
    exact AW.k1 (law_tail dL_law_659 dL_law_661 dL_law_662 dL_law_665 dL_law_667 dL_law_672 dL_law_674 dL_law_677 dL_law_678 dL_law_679 dL_law_680 dL_law_682 dL_law_683 dL_law_684 dL_law_689 rfl J.W (th_joi) (fun _ => ho) J.O (kk _ _ X.1 X.2))
set_option maxHeartbeats 1000000 in
theorem lw2_toggleNeed (J : LK sc L g Z c) (hL9 : L < 2147483648) (hi : 0 ≤ i ∧ i + 6 ≤ (L : Int)) (hE : 0 < zcTog Z (sc (i + 1).toNat) (sc (i + 2).toNat) → k = zcTog Z (sc (i + 1).toNat) (sc (i + 2).toNat) ∧ SIM g Z c) (hO : zcTog Z (sc (i + 1).toNat) (sc (i + 2).toNat) = 0 → k = 0 ∧ SIM g (zTog Z (sc (i + 1).toNat) (sc (i + 2).toNat)) c ∧ ZI (zTog Z (sc (i + 1).toNat) (sc (i + 2).toNat)) ∧ hL g nO 0 = Int64.ofInt (bz (Z 6 (48 * (24 * (sc (i + 1).toNat) + Z 1 ((sc (i + 1).toNat)).toNat) + zatH Z (sc (i + 1).toNat) (sc (i + 2).toNat)).toNat = 0)))
    (kk : ∀ h2 Z2, LK sc L h2 Z2 c → SIM h2 Z2 c → AW mL_law 14 548 mc ms Q bc bs 2094 h2 (lwl i) []) : AW mL_law 14 548 mc ms Q bc bs 709 g (lwl i) [vi k] := by
  have B := J.I.1.1
  refine AW.istore dL_law_709 rfl ?_
  refine AW.aload_n dL_law_711 rfl ?_
  refine AW.sarg J.S9 hL9 hi (by decide) rfl rfl dL_law_712 dL_law_713 dL_law_715 dL_law_716 dL_law_717 ?_
  refine AW.sarg J.S9 hL9 hi (by decide) rfl rfl dL_law_718 dL_law_719 dL_law_721 dL_law_722 dL_law_723 ?_
  refine AW.heq J.1 ?_
  refine AW.callV (as := [vi _, vi _]) dL_law_724 rfl rfl rfl okX8_toggleNeed lkL_137 J.W.1 rfl rfl rfl rfl b0 b0 rfl (kX8_toggleNeed J.W B.1 B.2.1 (fun e => ?_) (fun e => ?_))
  · obtain ⟨rfl, S⟩ := hE e
    have X := J.put (Y := zs Z 48 0 (zcTog Z (sc (i + 1).toNat) (sc (i + 2).toNat))) J.I.w48 (S.zj zs48_j)
    exact AW.k1 (law_tailZ dL_law_727 dL_law_729 dL_law_730 dL_law_733 dL_law_735 dL_law_740 dL_law_742 dL_law_745 dL_law_746 dL_law_747 dL_law_748 dL_law_750 dL_law_753 dL_law_754 dL_law_757 dL_law_758 dL_law_759 dL_law_764 rfl J.W (zs_eq rfl rfl) (Or.inl rfl) (fun z => absurd z (by omega)) J.O (kk _ _ X.1 X.2))
  · obtain ⟨rfl, S, I2, ho⟩ := hO e
    have X := J.put I2 S
    exact AW.k1 (law_tailZ dL_law_727 dL_law_729 dL_law_730 dL_law_733 dL_law_735 dL_law_740 dL_law_742 dL_law_745 dL_law_746 dL_law_747 dL_law_748 dL_law_750 dL_law_753 dL_law_754 dL_law_757 dL_law_758 dL_law_759 dL_law_764 rfl J.W (th_tog) (bz01 _) (fun _ => ho) J.O (kk _ _ X.1 X.2))
set_option maxHeartbeats 1000000 in
theorem lw2_drop (J : LK sc L g Z c) (hL9 : L < 2147483648) (hi : 0 ≤ i ∧ i + 6 ≤ (L : Int)) (hE : 0 < zcDro Z (sc (i + 1).toNat) (sc (i + 2).toNat) → k = zcDro Z (sc (i + 1).toNat) (sc (i + 2).toNat) ∧ SIM g Z c) (hO : zcDro Z (sc (i + 1).toNat) (sc (i + 2).toNat) = 0 → zhu Z (sc (i + 1).toNat) (zatH Z (sc (i + 1).toNat) (sc (i + 2).toNat)) = 0 → k = 0 ∧ SIM g (zdo (zs Z 48 0 0) (sc (i + 1).toNat) (zatH Z (sc (i + 1).toNat) (sc (i + 2).toNat))) c ∧ ZI (zdo (zs Z 48 0 0) (sc (i + 1).toNat) (zatH Z (sc (i + 1).toNat) (sc (i + 2).toNat))) ∧ hL g nO 0 = Int64.ofInt 1) (hV : zcDro Z (sc (i + 1).toNat) (sc (i + 2).toNat) = 0 → ¬ zhu Z (sc (i + 1).toNat) (zatH Z (sc (i + 1).toNat) (sc (i + 2).toNat)) = 0 → k = 0 ∧ SIM g (zs (zs (zs Z 48 0 0) 12 (48 * (sc (i + 1).toNat) + Z 11 ((sc (i + 1).toNat)).toNat).toNat (zatH Z (sc (i + 1).toNat) (sc (i + 2).toNat))) 11 ((sc (i + 1).toNat)).toNat (Z 11 ((sc (i + 1).toNat)).toNat + 1)) c ∧ ZI (zs (zs (zs Z 48 0 0) 12 (48 * (sc (i + 1).toNat) + Z 11 ((sc (i + 1).toNat)).toNat).toNat (zatH Z (sc (i + 1).toNat) (sc (i + 2).toNat))) 11 ((sc (i + 1).toNat)).toNat (Z 11 ((sc (i + 1).toNat)).toNat + 1)) ∧ hL g nO 0 = Int64.ofInt 0)
    (kk : ∀ h2 Z2, LK sc L h2 Z2 c → SIM h2 Z2 c → AW mL_law 14 548 mc ms Q bc bs 2094 h2 (lwl i) []) : AW mL_law 14 548 mc ms Q bc bs 784 g (lwl i) [vi k] := by
  have B := J.I.1.1
  have ehu : zhu (zs Z 48 0 0) (sc (i + 1).toNat) (zatH Z (sc (i + 1).toNat) (sc (i + 2).toNat)) = zhu Z (sc (i + 1).toNat) (zatH Z (sc (i + 1).toNat) (sc (i + 2).toNat)) := zhu_c (reT_zs rfl reT_r)
  refine AW.istore dL_law_784 rfl ?_
  refine AW.aload_n dL_law_786 rfl ?_
  refine AW.sarg J.S9 hL9 hi (by decide) rfl rfl dL_law_787 dL_law_788 dL_law_790 dL_law_791 dL_law_792 ?_
  refine AW.sarg J.S9 hL9 hi (by decide) rfl rfl dL_law_793 dL_law_794 dL_law_796 dL_law_797 dL_law_798 ?_
  refine AW.heq J.1 ?_
  refine AW.callV (as := [vi _, vi _]) dL_law_799 rfl rfl rfl okX8_drop lkL_140 J.W.1 rfl rfl rfl rfl b0 b0 rfl (kX8_drop J.W B (fun e => ?_) (fun e t ht z => ?_) (fun e t ht z => ?_))
  · obtain ⟨rfl, S⟩ := hE e
    have X := J.put (Y := zs Z 48 0 (zcDro Z (sc (i + 1).toNat) (sc (i + 2).toNat))) J.I.w48 (S.zj zs48_j)
    exact AW.k1 (law_tailZ dL_law_802 dL_law_804 dL_law_805 dL_law_808 dL_law_810 dL_law_815 dL_law_817 dL_law_820 dL_law_821 dL_law_822 dL_law_823 dL_law_825 dL_law_828 dL_law_829 dL_law_832 dL_law_833 dL_law_834 dL_law_839 rfl J.W (zs_eq rfl rfl) (Or.inl rfl) (fun z => absurd z (by omega)) J.O (kk _ _ X.1 X.2))
  · obtain ⟨rfl, S, I2, ho⟩ := hO e (by rw [← ehu]; exact z)
    have X := J.put (Y := zrow (zdo (zs Z 48 0 0) (sc (i + 1).toNat) (zatH Z (sc (i + 1).toNat) (sc (i + 2).toNat))) 46 t) (I2.r46 ht) (S.zj (zrow_j (by decide)))
    exact AW.k1 (law_tailZ dL_law_802 dL_law_804 dL_law_805 dL_law_808 dL_law_810 dL_law_815 dL_law_817 dL_law_820 dL_law_821 dL_law_822 dL_law_823 dL_law_825 dL_law_828 dL_law_829 dL_law_832 dL_law_833 dL_law_834 dL_law_839 rfl J.W (zrow_ne rfl th_dro) (Or.inr rfl) (fun _ => ho) J.O (kk _ _ X.1 X.2))
  · obtain ⟨rfl, S, I2, ho⟩ := hV e (by rw [← ehu]; exact z)
    have X := J.put (Y := zrow (zs (zs (zs Z 48 0 0) 12 (48 * (sc (i + 1).toNat) + Z 11 ((sc (i + 1).toNat)).toNat).toNat (zatH Z (sc (i + 1).toNat) (sc (i + 2).toNat))) 11 ((sc (i + 1).toNat)).toNat (Z 11 ((sc (i + 1).toNat)).toNat + 1)) 46 t) (I2.r46 ht) (S.zj (zrow_j (by decide)))
    exact AW.k1 (law_tailZ dL_law_802 dL_law_804 dL_law_805 dL_law_808 dL_law_810 dL_law_815 dL_law_817 dL_law_820 dL_law_821 dL_law_822 dL_law_823 dL_law_825 dL_law_828 dL_law_829 dL_law_832 dL_law_833 dL_law_834 dL_law_839 rfl J.W (zrow_ne rfl rfl) (Or.inl rfl) (fun _ => ho) J.O (kk _ _ X.1 X.2))
set_option maxHeartbeats 1000000 in
theorem lw2_head (J : LK sc L g Z c) (hL9 : L < 2147483648) (hi : 0 ≤ i ∧ i + 6 ≤ (L : Int)) (hE : ¬ (0 ≤ (sc (i + 1).toNat) ∧ (sc (i + 1).toNat) < Z 0 0) → k = 1 ∧ SIM g Z c) (hO : (0 ≤ (sc (i + 1).toNat) ∧ (sc (i + 1).toNat) < Z 0 0) → k = 0 ∧ SIM g (zs Z 48 0 0) c ∧ ZI (zs Z 48 0 0) ∧ hL g nO 0 = Int64.ofInt (100 * Z 1 ((sc (i + 1).toNat)).toNat + Z 11 ((sc (i + 1).toNat)).toNat))
    (kk : ∀ h2 Z2, LK sc L h2 Z2 c → SIM h2 Z2 c → AW mL_law 14 548 mc ms Q bc bs 2094 h2 (lwl i) []) : AW mL_law 14 548 mc ms Q bc bs 853 g (lwl i) [vi k] := by
  have B := J.I.1.1
  refine AW.istore dL_law_853 rfl ?_
  refine AW.aload_n dL_law_855 rfl ?_
  refine AW.sarg J.S9 hL9 hi (by decide) rfl rfl dL_law_856 dL_law_857 dL_law_859 dL_law_860 dL_law_861 ?_
  refine AW.heq J.1 ?_
  refine AW.callV (as := [vi _]) dL_law_862 rfl rfl rfl okX8_head lkL_144 J.W.1 rfl rfl rfl rfl b0 b0 rfl (kX8_head J.W B (fun e => ?_) (fun e => ?_))
  · obtain ⟨rfl, S⟩ := hE e
    have X := J.put (Y := zs Z 48 0 (1)) J.I.w48 (S.zj zs48_j)
    exact AW.k1 (law_tail dL_law_865 dL_law_867 dL_law_868 dL_law_871 dL_law_873 dL_law_878 dL_law_880 dL_law_883 dL_law_884 dL_law_885 dL_law_886 dL_law_888 dL_law_889 dL_law_890 dL_law_895 rfl J.W (zs_eq rfl rfl) (fun z => absurd z (by decide)) J.O (kk _ _ X.1 X.2))
  · obtain ⟨rfl, S, I2, ho⟩ := hO e
    have X := J.put I2 S
    exact AW.k1 (law_tail dL_law_865 dL_law_867 dL_law_868 dL_law_871 dL_law_873 dL_law_878 dL_law_880 dL_law_883 dL_law_884 dL_law_885 dL_law_886 dL_law_888 dL_law_889 dL_law_890 dL_law_895 rfl J.W (rfl) (fun _ => ho) J.O (kk _ _ X.1 X.2))
set_option maxHeartbeats 1000000 in
theorem lw2_field (J : LK sc L g Z c) (hL9 : L < 2147483648) (hi : 0 ≤ i ∧ i + 6 ≤ (L : Int)) (hE : 0 < zcFie Z (sc (i + 1).toNat) (sc (i + 2).toNat) (sc (i + 3).toNat) → k = zcFie Z (sc (i + 1).toNat) (sc (i + 2).toNat) (sc (i + 3).toNat) ∧ SIM g Z c) (hO : zcFie Z (sc (i + 1).toNat) (sc (i + 2).toNat) (sc (i + 3).toNat) = 0 → k = 0 ∧ SIM g (zs Z 48 0 0) c ∧ ZI (zs Z 48 0 0) ∧ hL g nO 0 = Int64.ofInt (zFie Z (sc (i + 1).toNat) (sc (i + 2).toNat) (sc (i + 3).toNat)))
    (kk : ∀ h2 Z2, LK sc L h2 Z2 c → SIM h2 Z2 c → AW mL_law 14 548 mc ms Q bc bs 2094 h2 (lwl i) []) : AW mL_law 14 548 mc ms Q bc bs 921 g (lwl i) [vi k] := by
  have B := J.I.1.1
  refine AW.istore dL_law_921 rfl ?_
  refine AW.aload_n dL_law_923 rfl ?_
  refine AW.sarg J.S9 hL9 hi (by decide) rfl rfl dL_law_924 dL_law_925 dL_law_927 dL_law_928 dL_law_929 ?_
  refine AW.sarg J.S9 hL9 hi (by decide) rfl rfl dL_law_930 dL_law_931 dL_law_933 dL_law_934 dL_law_935 ?_
  refine AW.sarg J.S9 hL9 hi (by decide) rfl rfl dL_law_936 dL_law_937 dL_law_939 dL_law_940 dL_law_941 ?_
  refine AW.heq J.1 ?_
  refine AW.callV (as := [vi _, vi _, vi _]) dL_law_942 rfl rfl rfl okX8_field lkL_147 J.W.1 rfl rfl rfl rfl b0 b0 rfl (kX8_field J.W B J.I.1.2.2.2.2.2.2.1 (fun e => ?_) (fun e => ?_))
  · obtain ⟨rfl, S⟩ := hE e
    have X := J.put (Y := zs Z 48 0 (zcFie Z (sc (i + 1).toNat) (sc (i + 2).toNat) (sc (i + 3).toNat))) J.I.w48 (S.zj zs48_j)
    exact AW.k1 (law_tail dL_law_945 dL_law_947 dL_law_948 dL_law_951 dL_law_953 dL_law_958 dL_law_960 dL_law_963 dL_law_964 dL_law_965 dL_law_966 dL_law_968 dL_law_969 dL_law_970 dL_law_975 rfl J.W (zs_eq rfl rfl) (fun z => absurd z (by omega)) J.O (kk _ _ X.1 X.2))
  · obtain ⟨rfl, S, I2, ho⟩ := hO e
    have X := J.put I2 S
    exact AW.k1 (law_tail dL_law_945 dL_law_947 dL_law_948 dL_law_951 dL_law_953 dL_law_958 dL_law_960 dL_law_963 dL_law_964 dL_law_965 dL_law_966 dL_law_968 dL_law_969 dL_law_970 dL_law_975 rfl J.W (rfl) (fun _ => ho) J.O (kk _ _ X.1 X.2))
set_option maxHeartbeats 1000000 in
theorem lw2_text (J : LK sc L g Z c) (hL9 : L < 2147483648) (hi : 0 ≤ i ∧ i + 6 ≤ (L : Int)) (hE : zcTxt Z (sc (i + 1).toNat) (sc (i + 2).toNat) (sc (i + 3).toNat) = 1 → k = 1 ∧ SIM g Z c) (hO : zcTxt Z (sc (i + 1).toNat) (sc (i + 2).toNat) (sc (i + 3).toNat) = 0 → k = 0 ∧ SIM g (zs Z 48 0 0) c ∧ ZI (zs Z 48 0 0) ∧ hL g nO 0 = Int64.ofInt (zsgn Z (sc (i + 1).toNat) (sc (i + 2).toNat) (sc (i + 3).toNat)))
    (kk : ∀ h2 Z2, LK sc L h2 Z2 c → SIM h2 Z2 c → AW mL_law 14 548 mc ms Q bc bs 2094 h2 (lwl i) []) : AW mL_law 14 548 mc ms Q bc bs 1001 g (lwl i) [vi k] := by
  have B := J.I.1.1
  refine AW.istore dL_law_1001 rfl ?_
  refine AW.aload_n dL_law_1003 rfl ?_
  refine AW.sarg J.S9 hL9 hi (by decide) rfl rfl dL_law_1004 dL_law_1005 dL_law_1007 dL_law_1008 dL_law_1009 ?_
  refine AW.sarg J.S9 hL9 hi (by decide) rfl rfl dL_law_1010 dL_law_1011 dL_law_1013 dL_law_1014 dL_law_1015 ?_
  refine AW.sarg J.S9 hL9 hi (by decide) rfl rfl dL_law_1016 dL_law_1017 dL_law_1019 dL_law_1020 dL_law_1021 ?_
  refine AW.heq J.1 ?_
  refine AW.callV (as := [vi _, vi _, vi _]) dL_law_1022 rfl rfl rfl okX8_text lkL_150 J.W.1 rfl rfl rfl rfl b0 b0 rfl (kX8_text J.W B J.I.1.2.2.2.2.2.1 J.I.1.2.2.2.2.2.2.2 (fun e => ?_) (fun e => ?_))
  · obtain ⟨rfl, S⟩ := hE e
    have X := J.put (Y := zs Z 48 0 (1)) J.I.w48 (S.zj zs48_j)
    exact AW.k1 (law_tail dL_law_1025 dL_law_1027 dL_law_1028 dL_law_1031 dL_law_1033 dL_law_1038 dL_law_1040 dL_law_1043 dL_law_1044 dL_law_1045 dL_law_1046 dL_law_1048 dL_law_1049 dL_law_1050 dL_law_1055 rfl J.W (zs_eq rfl rfl) (fun z => absurd z (by decide)) J.O (kk _ _ X.1 X.2))
  · obtain ⟨rfl, S, I2, ho⟩ := hO e
    have X := J.put I2 S
    exact AW.k1 (law_tail dL_law_1025 dL_law_1027 dL_law_1028 dL_law_1031 dL_law_1033 dL_law_1038 dL_law_1040 dL_law_1043 dL_law_1044 dL_law_1045 dL_law_1046 dL_law_1048 dL_law_1049 dL_law_1050 dL_law_1055 rfl J.W (rfl) (fun _ => ho) J.O (kk _ _ X.1 X.2))
set_option maxHeartbeats 1000000 in
theorem lw2_form (J : LK sc L g Z c) (hL9 : L < 2147483648) (hi : 0 ≤ i ∧ i + 6 ≤ (L : Int)) (hE : 0 < cd2 (¬ (0 ≤ (sc (i + 1).toNat) ∧ (sc (i + 1).toNat) < Z 0 0)) (Z 13 0 = 8) → k = cd2 (¬ (0 ≤ (sc (i + 1).toNat) ∧ (sc (i + 1).toNat) < Z 0 0)) (Z 13 0 = 8) ∧ SIM g Z c) (hO : cd2 (¬ (0 ≤ (sc (i + 1).toNat) ∧ (sc (i + 1).toNat) < Z 0 0)) (Z 13 0 = 8) = 0 → k = 0 ∧ SIM g (zFor Z (sc (i + 1).toNat)) c ∧ ZI (zFor Z (sc (i + 1).toNat)) ∧ hL g nO 0 = Int64.ofInt (Z 13 0))
    (kk : ∀ h2 Z2, LK sc L h2 Z2 c → SIM h2 Z2 c → AW mL_law 14 548 mc ms Q bc bs 2094 h2 (lwl i) []) : AW mL_law 14 548 mc ms Q bc bs 1069 g (lwl i) [vi k] := by
  have B := J.I.1.1
  refine AW.istore dL_law_1069 rfl ?_
  refine AW.aload_n dL_law_1071 rfl ?_
  refine AW.sarg J.S9 hL9 hi (by decide) rfl rfl dL_law_1072 dL_law_1073 dL_law_1075 dL_law_1076 dL_law_1077 ?_
  refine AW.heq J.1 ?_
  refine AW.callV (as := [vi _]) dL_law_1078 rfl rfl rfl okX8_form lkL_153 J.W.1 rfl rfl rfl rfl b0 b0 rfl (kX8_form J.W B (fun e => ?_) (fun e => ?_))
  · obtain ⟨rfl, S⟩ := hE e
    have X := J.put (Y := zs Z 48 0 (cd2 (¬ (0 ≤ (sc (i + 1).toNat) ∧ (sc (i + 1).toNat) < Z 0 0)) (Z 13 0 = 8))) J.I.w48 (S.zj zs48_j)
    exact AW.k1 (law_tail dL_law_1081 dL_law_1083 dL_law_1084 dL_law_1087 dL_law_1089 dL_law_1094 dL_law_1096 dL_law_1099 dL_law_1100 dL_law_1101 dL_law_1102 dL_law_1104 dL_law_1105 dL_law_1106 dL_law_1111 rfl J.W (zs_eq rfl rfl) (fun z => absurd z (by omega)) J.O (kk _ _ X.1 X.2))
  · obtain ⟨rfl, S, I2, ho⟩ := hO e
    have X := J.put I2 S
    exact AW.k1 (law_tail dL_law_1081 dL_law_1083 dL_law_1084 dL_law_1087 dL_law_1089 dL_law_1094 dL_law_1096 dL_law_1099 dL_law_1100 dL_law_1101 dL_law_1102 dL_law_1104 dL_law_1105 dL_law_1106 dL_law_1111 rfl J.W (th_for) (fun _ => ho) J.O (kk _ _ X.1 X.2))
set_option maxHeartbeats 1000000 in
theorem lw2_take (J : LK sc L g Z c) (hL9 : L < 2147483648) (hi : 0 ≤ i ∧ i + 6 ≤ (L : Int)) (hE : 0 < zcTak Z (sc (i + 1).toNat) (sc (i + 2).toNat) → k = zcTak Z (sc (i + 1).toNat) (sc (i + 2).toNat) ∧ SIM g Z c) (hO : zcTak Z (sc (i + 1).toNat) (sc (i + 2).toNat) = 0 → k = 0 ∧ SIM g (zTak Z (sc (i + 1).toNat) (sc (i + 2).toNat) (nzi (sc (i + 3).toNat))) c ∧ ZI (zTak Z (sc (i + 1).toNat) (sc (i + 2).toNat) (nzi (sc (i + 3).toNat))) ∧ hL g nO 0 = Int64.ofInt (zheA (zTak Z (sc (i + 1).toNat) (sc (i + 2).toNat) (nzi (sc (i + 3).toNat))) (sc (i + 1).toNat) 48))
    (kk : ∀ h2 Z2, LK sc L h2 Z2 c → SIM h2 Z2 c → AW mL_law 14 548 mc ms Q bc bs 2094 h2 (lwl i) []) : AW mL_law 14 548 mc ms Q bc bs 1145 g (lwl i) [vi k] := by
  have B := J.I.1.1
  refine AW.istore dL_law_1145 rfl ?_
  refine AW.aload_n dL_law_1147 rfl ?_
  refine AW.sarg J.S9 hL9 hi (by decide) rfl rfl dL_law_1148 dL_law_1149 dL_law_1151 dL_law_1152 dL_law_1153 ?_
  refine AW.sarg J.S9 hL9 hi (by decide) rfl rfl dL_law_1154 dL_law_1155 dL_law_1157 dL_law_1158 dL_law_1159 ?_
  refine AW.sarg J.S9 hL9 hi (by decide) rfl rfl dL_law_1160 dL_law_1161 dL_law_1163 dL_law_1164 dL_law_1165 ?_
  refine AW.nz dL_law_1166 dL_law_1169 dL_law_1170 dL_law_1173 ?_
  refine AW.heq J.1 ?_
  refine AW.callV (as := [vi _, vi _, vi _]) dL_law_1174 rfl rfl rfl okX8_take lkL_157 J.W.1 rfl rfl rfl rfl b0 b0 rfl (kX8_take J.W B (nz01 _) (fun e t ht => ?_) (fun e t ht => ?_))
  · obtain ⟨rfl, S⟩ := hE e
    have X := J.put (Y := zrow (zs Z 48 0 (zcTak Z (sc (i + 1).toNat) (sc (i + 2).toNat))) 46 t) (J.I.w48.r46 ht) ((S.zj zs48_j).zj (zrow_j (by decide)))
    exact AW.k1 (law_tail dL_law_1177 dL_law_1179 dL_law_1180 dL_law_1183 dL_law_1185 dL_law_1190 dL_law_1192 dL_law_1195 dL_law_1196 dL_law_1197 dL_law_1198 dL_law_1200 dL_law_1201 dL_law_1202 dL_law_1207 rfl J.W (zrow_ne rfl (zs_eq rfl rfl)) (fun z => absurd z (by omega)) J.O (kk _ _ X.1 X.2))
  · obtain ⟨rfl, S, I2, ho⟩ := hO e
    have X := J.put (Y := zrow (zTak Z (sc (i + 1).toNat) (sc (i + 2).toNat) (nzi (sc (i + 3).toNat))) 46 t) (I2.r46 ht) (S.zj (zrow_j (by decide)))
    exact AW.k1 (law_tail dL_law_1177 dL_law_1179 dL_law_1180 dL_law_1183 dL_law_1185 dL_law_1190 dL_law_1192 dL_law_1195 dL_law_1196 dL_law_1197 dL_law_1198 dL_law_1200 dL_law_1201 dL_law_1202 dL_law_1207 rfl J.W (zrow_ne rfl (th_tak)) (fun _ => ho) J.O (kk _ _ X.1 X.2))
set_option maxHeartbeats 1000000 in
theorem lw2_letGo (J : LK sc L g Z c) (hL9 : L < 2147483648) (hi : 0 ≤ i ∧ i + 6 ≤ (L : Int)) (hE : zcLet Z (sc (i + 1).toNat) (sc (i + 2).toNat) = 1 → k = 1 ∧ SIM g Z c) (hO : zcLet Z (sc (i + 1).toNat) (sc (i + 2).toNat) = 0 → k = 0 ∧ SIM g (zla (zLet0 Z (sc (i + 1).toNat) (sc (i + 2).toNat)) (Z 14 ((sc (i + 1).toNat)).toNat)) c ∧ ZI (zla (zLet0 Z (sc (i + 1).toNat) (sc (i + 2).toNat)) (Z 14 ((sc (i + 1).toNat)).toNat)) ∧ hL g nO 0 = Int64.ofInt (zlaN (zLet0 Z (sc (i + 1).toNat) (sc (i + 2).toNat)) (Z 14 ((sc (i + 1).toNat)).toNat)))
    (kk : ∀ h2 Z2, LK sc L h2 Z2 c → SIM h2 Z2 c → AW mL_law 14 548 mc ms Q bc bs 2094 h2 (lwl i) []) : AW mL_law 14 548 mc ms Q bc bs 1227 g (lwl i) [vi k] := by
  have B := J.I.1.1
  refine AW.istore dL_law_1227 rfl ?_
  refine AW.aload_n dL_law_1229 rfl ?_
  refine AW.sarg J.S9 hL9 hi (by decide) rfl rfl dL_law_1230 dL_law_1231 dL_law_1233 dL_law_1234 dL_law_1235 ?_
  refine AW.sarg J.S9 hL9 hi (by decide) rfl rfl dL_law_1236 dL_law_1237 dL_law_1239 dL_law_1240 dL_law_1241 ?_
  refine AW.heq J.1 ?_
  refine AW.callV (as := [vi _, vi _]) dL_law_1242 rfl rfl rfl okX8_letGo lkL_160 J.W.1 rfl rfl rfl rfl b0 b0 rfl (kX8_letGo J.W B (fun e => ?_) (fun e t ht => ?_))
  · obtain ⟨rfl, S⟩ := hE e
    have X := J.put (Y := zs Z 48 0 (1)) J.I.w48 (S.zj zs48_j)
    exact AW.k1 (law_tail dL_law_1245 dL_law_1247 dL_law_1248 dL_law_1251 dL_law_1253 dL_law_1258 dL_law_1260 dL_law_1263 dL_law_1264 dL_law_1265 dL_law_1266 dL_law_1268 dL_law_1269 dL_law_1270 dL_law_1275 rfl J.W (zs_eq rfl rfl) (fun z => absurd z (by decide)) J.O (kk _ _ X.1 X.2))
  · obtain ⟨rfl, S, I2, ho⟩ := hO e
    have X := J.put (Y := zrow (zla (zLet0 Z (sc (i + 1).toNat) (sc (i + 2).toNat)) (Z 14 ((sc (i + 1).toNat)).toNat)) 46 t) (I2.r46 ht) (S.zj (zrow_j (by decide)))
    exact AW.k1 (law_tail dL_law_1245 dL_law_1247 dL_law_1248 dL_law_1251 dL_law_1253 dL_law_1258 dL_law_1260 dL_law_1263 dL_law_1264 dL_law_1265 dL_law_1266 dL_law_1268 dL_law_1269 dL_law_1270 dL_law_1275 rfl J.W (zrow_ne rfl (th_zla th_let)) (fun _ => ho) J.O (kk _ _ X.1 X.2))
set_option maxHeartbeats 1000000 in
theorem lw2_retire (J : LK sc L g Z c) (hL9 : L < 2147483648) (hi : 0 ≤ i ∧ i + 6 ≤ (L : Int)) (hE : 0 < zcRet Z (sc (i + 1).toNat) → k = zcRet Z (sc (i + 1).toNat) ∧ SIM g Z c) (hO : zcRet Z (sc (i + 1).toNat) = 0 → k = 0 ∧ SIM g (zla (zRet0 Z (sc (i + 1).toNat)) (Z 14 ((sc (i + 1).toNat)).toNat)) c ∧ ZI (zla (zRet0 Z (sc (i + 1).toNat)) (Z 14 ((sc (i + 1).toNat)).toNat)) ∧ hL g nO 0 = Int64.ofInt (zlaN (zRet0 Z (sc (i + 1).toNat)) (Z 14 ((sc (i + 1).toNat)).toNat)))
    (kk : ∀ h2 Z2, LK sc L h2 Z2 c → SIM h2 Z2 c → AW mL_law 14 548 mc ms Q bc bs 2094 h2 (lwl i) []) : AW mL_law 14 548 mc ms Q bc bs 1289 g (lwl i) [vi k] := by
  have B := J.I.1.1
  refine AW.istore dL_law_1289 rfl ?_
  refine AW.aload_n dL_law_1291 rfl ?_
  refine AW.sarg J.S9 hL9 hi (by decide) rfl rfl dL_law_1292 dL_law_1293 dL_law_1295 dL_law_1296 dL_law_1297 ?_
  refine AW.heq J.1 ?_
  refine AW.callV (as := [vi _]) dL_law_1298 rfl rfl rfl okX8_retire lkL_163 J.W.1 rfl rfl rfl rfl b0 b0 rfl (kX8_retire J.W B (fun e => ?_) (fun e t ht => ?_))
  · obtain ⟨rfl, S⟩ := hE e
    have X := J.put (Y := zs Z 48 0 (zcRet Z (sc (i + 1).toNat))) J.I.w48 (S.zj zs48_j)
    exact AW.k1 (law_tail dL_law_1301 dL_law_1303 dL_law_1304 dL_law_1307 dL_law_1309 dL_law_1314 dL_law_1316 dL_law_1319 dL_law_1320 dL_law_1321 dL_law_1322 dL_law_1324 dL_law_1325 dL_law_1326 dL_law_1331 rfl J.W (zs_eq rfl rfl) (fun z => absurd z (by omega)) J.O (kk _ _ X.1 X.2))
  · obtain ⟨rfl, S, I2, ho⟩ := hO e
    have X := J.put (Y := zrow (zla (zRet0 Z (sc (i + 1).toNat)) (Z 14 ((sc (i + 1).toNat)).toNat)) 46 t) (I2.r46 ht) (S.zj (zrow_j (by decide)))
    exact AW.k1 (law_tail dL_law_1301 dL_law_1303 dL_law_1304 dL_law_1307 dL_law_1309 dL_law_1314 dL_law_1316 dL_law_1319 dL_law_1320 dL_law_1321 dL_law_1322 dL_law_1324 dL_law_1325 dL_law_1326 dL_law_1331 rfl J.W (zrow_ne rfl (th_zla th_ret)) (fun _ => ho) J.O (kk _ _ X.1 X.2))
set_option maxHeartbeats 1000000 in
theorem lw2_renew (J : LK sc L g Z c) (hL9 : L < 2147483648) (hi : 0 ≤ i ∧ i + 6 ≤ (L : Int)) (hE : 0 < zcRet Z (sc (i + 1).toNat) → k = zcRet Z (sc (i + 1).toNat) ∧ SIM g Z c) (hO : zcRet Z (sc (i + 1).toNat) = 0 → k = 0 ∧ SIM g (zla (zRnw0 Z (sc (i + 1).toNat)) (Z 14 ((sc (i + 1).toNat)).toNat)) c ∧ ZI (zla (zRnw0 Z (sc (i + 1).toNat)) (Z 14 ((sc (i + 1).toNat)).toNat)) ∧ hL g nO 0 = Int64.ofInt (zheA (zla (zRnw0 Z (sc (i + 1).toNat)) (Z 14 ((sc (i + 1).toNat)).toNat)) (sc (i + 1).toNat) 48))
    (kk : ∀ h2 Z2, LK sc L h2 Z2 c → SIM h2 Z2 c → AW mL_law 14 548 mc ms Q bc bs 2094 h2 (lwl i) []) : AW mL_law 14 548 mc ms Q bc bs 1345 g (lwl i) [vi k] := by
  have B := J.I.1.1
  refine AW.istore dL_law_1345 rfl ?_
  refine AW.aload_n dL_law_1347 rfl ?_
  refine AW.sarg J.S9 hL9 hi (by decide) rfl rfl dL_law_1348 dL_law_1349 dL_law_1351 dL_law_1352 dL_law_1353 ?_
  refine AW.heq J.1 ?_
  refine AW.callV (as := [vi _]) dL_law_1354 rfl rfl rfl okX8_renew lkL_166 J.W.1 rfl rfl rfl rfl b0 b0 rfl (kX8_renew J.W B (fun e => ?_) (fun e t u ht hu => ?_))
  · obtain ⟨rfl, S⟩ := hE e
    have X := J.put (Y := zs Z 48 0 (zcRet Z (sc (i + 1).toNat))) J.I.w48 (S.zj zs48_j)
    exact AW.k1 (law_tail dL_law_1357 dL_law_1359 dL_law_1360 dL_law_1363 dL_law_1365 dL_law_1370 dL_law_1372 dL_law_1375 dL_law_1376 dL_law_1377 dL_law_1378 dL_law_1380 dL_law_1381 dL_law_1382 dL_law_1387 rfl J.W (zs_eq rfl rfl) (fun z => absurd z (by omega)) J.O (kk _ _ X.1 X.2))
  · obtain ⟨rfl, S, I2, ho⟩ := hO e
    have X := J.put (Y := z67 (zla (zRnw0 Z (sc (i + 1).toNat)) (Z 14 ((sc (i + 1).toNat)).toNat)) t u) (I2.r67 ht hu) (S.zj z67_j)
    exact AW.k1 (law_tail dL_law_1357 dL_law_1359 dL_law_1360 dL_law_1363 dL_law_1365 dL_law_1370 dL_law_1372 dL_law_1375 dL_law_1376 dL_law_1377 dL_law_1378 dL_law_1380 dL_law_1381 dL_law_1382 dL_law_1387 rfl J.W (z67_ne rfl rfl (th_zla th_rnw)) (fun _ => ho) J.O (kk _ _ X.1 X.2))
set_option maxHeartbeats 1000000 in
theorem lw2_read (J : LK sc L g Z c) (hL9 : L < 2147483648) (hi : 0 ≤ i ∧ i + 6 ≤ (L : Int)) (hE : 0 < zcRea Z (sc (i + 1).toNat) (sc (i + 2).toNat) (sc (i + 3).toNat) → k = zcRea Z (sc (i + 1).toNat) (sc (i + 2).toNat) (sc (i + 3).toNat) ∧ SIM g Z c) (hO : zcRea Z (sc (i + 1).toNat) (sc (i + 2).toNat) (sc (i + 3).toNat) = 0 → k = 0 ∧ SIM g (zsee (zs Z 48 0 0) (sc (i + 2).toNat) (Z 15 ((sc (i + 1).toNat)).toNat)) c ∧ ZI (zsee (zs Z 48 0 0) (sc (i + 2).toNat) (Z 15 ((sc (i + 1).toNat)).toNat)) ∧ hL g nO 0 = Int64.ofInt (zsee (zs Z 48 0 0) (sc (i + 2).toNat) (Z 15 ((sc (i + 1).toNat)).toNat) 22 (960 + zinF Z (sc (i + 1).toNat) (sc (i + 3).toNat)).toNat))
    (kk : ∀ h2 Z2, LK sc L h2 Z2 c → SIM h2 Z2 c → AW mL_law 14 548 mc ms Q bc bs 2094 h2 (lwl i) []) : AW mL_law 14 548 mc ms Q bc bs 1413 g (lwl i) [vi k] := by
  have B := J.I.1.1
  have R := J.I.1.2.1
  have T := J.I.1.2.2.1
  refine AW.istore dL_law_1413 rfl ?_
  refine AW.aload_n dL_law_1415 rfl ?_
  refine AW.sarg J.S9 hL9 hi (by decide) rfl rfl dL_law_1416 dL_law_1417 dL_law_1419 dL_law_1420 dL_law_1421 ?_
  refine AW.sarg J.S9 hL9 hi (by decide) rfl rfl dL_law_1422 dL_law_1423 dL_law_1425 dL_law_1426 dL_law_1427 ?_
  refine AW.sarg J.S9 hL9 hi (by decide) rfl rfl dL_law_1428 dL_law_1429 dL_law_1431 dL_law_1432 dL_law_1433 ?_
  refine AW.heq J.1 ?_
  refine AW.callV (as := [vi _, vi _, vi _]) dL_law_1434 rfl rfl rfl okX8_read lkL_169 J.W.1 rfl rfl rfl rfl b0 b0 rfl (kX8_read J.W B R T (fun e => ?_) (fun e t u w => ?_))
  · obtain ⟨rfl, S⟩ := hE e
    have X := J.put (Y := zs Z 48 0 (zcRea Z (sc (i + 1).toNat) (sc (i + 2).toNat) (sc (i + 3).toNat))) J.I.w48 (S.zj zs48_j)
    exact AW.k1 (law_tail dL_law_1437 dL_law_1439 dL_law_1440 dL_law_1443 dL_law_1445 dL_law_1450 dL_law_1452 dL_law_1455 dL_law_1456 dL_law_1457 dL_law_1458 dL_law_1460 dL_law_1461 dL_law_1462 dL_law_1467 rfl J.W (zs_eq rfl rfl) (fun z => absurd z (by omega)) J.O (kk _ _ X.1 X.2))
  · obtain ⟨rfl, S, I2, ho⟩ := hO e
    have X := J.put (Y := z3 (zsee (zs Z 48 0 0) (sc (i + 2).toNat) (Z 15 ((sc (i + 1).toNat)).toNat)) t u w) I2.r3 (S.zj z3_j)
    exact AW.k1 (law_tail dL_law_1437 dL_law_1439 dL_law_1440 dL_law_1443 dL_law_1445 dL_law_1450 dL_law_1452 dL_law_1455 dL_law_1456 dL_law_1457 dL_law_1458 dL_law_1460 dL_law_1461 dL_law_1462 dL_law_1467 rfl J.W (z3_ne rfl (th_see)) (fun _ => ho) J.O (kk _ _ X.1 X.2))
set_option maxHeartbeats 1000000 in
theorem lw2_write (J : LK sc L g Z c) (hL9 : L < 2147483648) (hi : 0 ≤ i ∧ i + 6 ≤ (L : Int)) (hE : 0 < zcWri Z (sc (i + 1).toNat) (sc (i + 2).toNat) (sc (i + 3).toNat) (sc (i + 4).toNat) → k = zcWri Z (sc (i + 1).toNat) (sc (i + 2).toNat) (sc (i + 3).toNat) (sc (i + 4).toNat) ∧ SIM g Z c) (hO : zcWri Z (sc (i + 1).toNat) (sc (i + 2).toNat) (sc (i + 3).toNat) (sc (i + 4).toNat) = 0 → k = 0 ∧ SIM g (zWri (zs Z 48 0 0) (sc (i + 1).toNat) (sc (i + 2).toNat) (sc (i + 3).toNat) (sc (i + 4).toNat)) c ∧ ZI (zWri (zs Z 48 0 0) (sc (i + 1).toNat) (sc (i + 2).toNat) (sc (i + 3).toNat) (sc (i + 4).toNat)) ∧ hL g nO 0 = Int64.ofInt (zsee (zs Z 48 0 0) (sc (i + 2).toNat) (Z 15 ((sc (i + 1).toNat)).toNat) 22 (960 + zinF Z (sc (i + 1).toNat) (sc (i + 3).toNat)).toNat))
    (kk : ∀ h2 Z2, LK sc L h2 Z2 c → SIM h2 Z2 c → AW mL_law 14 548 mc ms Q bc bs 2094 h2 (lwl i) []) : AW mL_law 14 548 mc ms Q bc bs 1499 g (lwl i) [vi k] := by
  have B := J.I.1.1
  have R := J.I.1.2.1
  have T := J.I.1.2.2.1
  refine AW.istore dL_law_1499 rfl ?_
  refine AW.aload_n dL_law_1501 rfl ?_
  refine AW.sarg J.S9 hL9 hi (by decide) rfl rfl dL_law_1502 dL_law_1503 dL_law_1505 dL_law_1506 dL_law_1507 ?_
  refine AW.sarg J.S9 hL9 hi (by decide) rfl rfl dL_law_1508 dL_law_1509 dL_law_1511 dL_law_1512 dL_law_1513 ?_
  refine AW.sarg J.S9 hL9 hi (by decide) rfl rfl dL_law_1514 dL_law_1515 dL_law_1517 dL_law_1518 dL_law_1519 ?_
  refine AW.sarg J.S9 hL9 hi (by decide) rfl rfl dL_law_1520 dL_law_1521 dL_law_1523 dL_law_1524 dL_law_1525 ?_
  refine AW.heq J.1 ?_
  refine AW.callV (as := [vi _, vi _, vi _, vi _]) dL_law_1526 rfl rfl rfl okX8_write lkL_173 J.W.1 rfl rfl rfl rfl b0 b0 rfl (kX8_write J.W B R T (fun e => ?_) (fun e t u w => ?_))
  · obtain ⟨rfl, S⟩ := hE e
    have X := J.put (Y := zs Z 48 0 (zcWri Z (sc (i + 1).toNat) (sc (i + 2).toNat) (sc (i + 3).toNat) (sc (i + 4).toNat))) J.I.w48 (S.zj zs48_j)
    exact AW.k1 (law_tail dL_law_1529 dL_law_1531 dL_law_1532 dL_law_1535 dL_law_1537 dL_law_1542 dL_law_1544 dL_law_1547 dL_law_1548 dL_law_1549 dL_law_1550 dL_law_1552 dL_law_1553 dL_law_1554 dL_law_1559 rfl J.W (zs_eq rfl rfl) (fun z => absurd z (by omega)) J.O (kk _ _ X.1 X.2))
  · obtain ⟨rfl, S, I2, ho⟩ := hO e
    have X := J.put (Y := z3 (zWri (zs Z 48 0 0) (sc (i + 1).toNat) (sc (i + 2).toNat) (sc (i + 3).toNat) (sc (i + 4).toNat)) t u w) I2.r3 (S.zj z3_j)
    exact AW.k1 (law_tail dL_law_1529 dL_law_1531 dL_law_1532 dL_law_1535 dL_law_1537 dL_law_1542 dL_law_1544 dL_law_1547 dL_law_1548 dL_law_1549 dL_law_1550 dL_law_1552 dL_law_1553 dL_law_1554 dL_law_1559 rfl J.W (z3_ne rfl (th_wri)) (fun _ => ho) J.O (kk _ _ X.1 X.2))
set_option maxHeartbeats 1000000 in
theorem lw2_row (J : LK sc L g Z c) (hL9 : L < 2147483648) (hi : 0 ≤ i ∧ i + 6 ≤ (L : Int)) (hE : 0 < zcVer Z (sc (i + 1).toNat) (sc (i + 2).toNat) (Z 19 0 = 20) → k = zcVer Z (sc (i + 1).toNat) (sc (i + 2).toNat) (Z 19 0 = 20) ∧ SIM g Z c) (hO : zcVer Z (sc (i + 1).toNat) (sc (i + 2).toNat) (Z 19 0 = 20) = 0 → k = 0 ∧ SIM g (zRow Z (sc (i + 1).toNat) (sc (i + 2).toNat)) c ∧ ZI (zRow Z (sc (i + 1).toNat) (sc (i + 2).toNat)) ∧ hL g nO 0 = Int64.ofInt (Z 19 0))
    (kk : ∀ h2 Z2, LK sc L h2 Z2 c → SIM h2 Z2 c → AW mL_law 14 548 mc ms Q bc bs 2094 h2 (lwl i) []) : AW mL_law 14 548 mc ms Q bc bs 1579 g (lwl i) [vi k] := by
  have B := J.I.1.1
  have R := J.I.1.2.1
  refine AW.istore dL_law_1579 rfl ?_
  refine AW.aload_n dL_law_1581 rfl ?_
  refine AW.sarg J.S9 hL9 hi (by decide) rfl rfl dL_law_1582 dL_law_1583 dL_law_1585 dL_law_1586 dL_law_1587 ?_
  refine AW.sarg J.S9 hL9 hi (by decide) rfl rfl dL_law_1588 dL_law_1589 dL_law_1591 dL_law_1592 dL_law_1593 ?_
  refine AW.heq J.1 ?_
  refine AW.callV (as := [vi _, vi _]) dL_law_1594 rfl rfl rfl okX8_row lkL_176 J.W.1 rfl rfl rfl rfl b0 b0 rfl (kX8_row J.W B R (fun e => ?_) (fun e => ?_))
  · obtain ⟨rfl, S⟩ := hE e
    have X := J.put (Y := zs Z 48 0 (zcVer Z (sc (i + 1).toNat) (sc (i + 2).toNat) (Z 19 0 = 20))) J.I.w48 (S.zj zs48_j)
    exact AW.k1 (law_tail dL_law_1597 dL_law_1599 dL_law_1600 dL_law_1603 dL_law_1605 dL_law_1610 dL_law_1612 dL_law_1615 dL_law_1616 dL_law_1617 dL_law_1618 dL_law_1620 dL_law_1621 dL_law_1622 dL_law_1627 rfl J.W (zs_eq rfl rfl) (fun z => absurd z (by omega)) J.O (kk _ _ X.1 X.2))
  · obtain ⟨rfl, S, I2, ho⟩ := hO e
    have X := J.put I2 S
    exact AW.k1 (law_tail dL_law_1597 dL_law_1599 dL_law_1600 dL_law_1603 dL_law_1605 dL_law_1610 dL_law_1612 dL_law_1615 dL_law_1616 dL_law_1617 dL_law_1618 dL_law_1620 dL_law_1621 dL_law_1622 dL_law_1627 rfl J.W (th_row) (fun _ => ho) J.O (kk _ _ X.1 X.2))
set_option maxHeartbeats 1000000 in
theorem lw2_set (J : LK sc L g Z c) (hL9 : L < 2147483648) (hi : 0 ≤ i ∧ i + 6 ≤ (L : Int)) (hE : 0 < zcSet Z (sc (i + 1).toNat) (sc (i + 2).toNat) (sc (i + 3).toNat) → k = zcSet Z (sc (i + 1).toNat) (sc (i + 2).toNat) (sc (i + 3).toNat) ∧ SIM g Z c) (hO : zcSet Z (sc (i + 1).toNat) (sc (i + 2).toNat) (sc (i + 3).toNat) = 0 → k = 0 ∧ SIM g (zSet Z (sc (i + 1).toNat) (sc (i + 2).toNat) (sc (i + 3).toNat)) c ∧ ZI (zSet Z (sc (i + 1).toNat) (sc (i + 2).toNat) (sc (i + 3).toNat)) ∧ hL g nO 0 = Int64.ofInt (Z 22 (48 * (sc (i + 1).toNat) + zinR Z (sc (i + 1).toNat) (sc (i + 2).toNat)).toNat))
    (kk : ∀ h2 Z2, LK sc L h2 Z2 c → SIM h2 Z2 c → AW mL_law 14 548 mc ms Q bc bs 2094 h2 (lwl i) []) : AW mL_law 14 548 mc ms Q bc bs 1653 g (lwl i) [vi k] := by
  have B := J.I.1.1
  have R := J.I.1.2.1
  refine AW.istore dL_law_1653 rfl ?_
  refine AW.aload_n dL_law_1655 rfl ?_
  refine AW.sarg J.S9 hL9 hi (by decide) rfl rfl dL_law_1656 dL_law_1657 dL_law_1659 dL_law_1660 dL_law_1661 ?_
  refine AW.sarg J.S9 hL9 hi (by decide) rfl rfl dL_law_1662 dL_law_1663 dL_law_1665 dL_law_1666 dL_law_1667 ?_
  refine AW.sarg J.S9 hL9 hi (by decide) rfl rfl dL_law_1668 dL_law_1669 dL_law_1671 dL_law_1672 dL_law_1673 ?_
  refine AW.heq J.1 ?_
  refine AW.callV (as := [vi _, vi _, vi _]) dL_law_1674 rfl rfl rfl okX8_set lkL_179 J.W.1 rfl rfl rfl rfl b0 b0 rfl (kX8_set J.W B R (fun e => ?_) (fun e => ?_))
  · obtain ⟨rfl, S⟩ := hE e
    have X := J.put (Y := zs Z 48 0 (zcSet Z (sc (i + 1).toNat) (sc (i + 2).toNat) (sc (i + 3).toNat))) J.I.w48 (S.zj zs48_j)
    exact AW.k1 (law_tail dL_law_1677 dL_law_1679 dL_law_1680 dL_law_1683 dL_law_1685 dL_law_1690 dL_law_1692 dL_law_1695 dL_law_1696 dL_law_1697 dL_law_1698 dL_law_1700 dL_law_1701 dL_law_1702 dL_law_1707 rfl J.W (zs_eq rfl rfl) (fun z => absurd z (by omega)) J.O (kk _ _ X.1 X.2))
  · obtain ⟨rfl, S, I2, ho⟩ := hO e
    have X := J.put I2 S
    exact AW.k1 (law_tail dL_law_1677 dL_law_1679 dL_law_1680 dL_law_1683 dL_law_1685 dL_law_1690 dL_law_1692 dL_law_1695 dL_law_1696 dL_law_1697 dL_law_1698 dL_law_1700 dL_law_1701 dL_law_1702 dL_law_1707 rfl J.W (th_set) (fun _ => ho) J.O (kk _ _ X.1 X.2))
set_option maxHeartbeats 1000000 in
theorem lw2_value (J : LK sc L g Z c) (hL9 : L < 2147483648) (hi : 0 ≤ i ∧ i + 6 ≤ (L : Int)) (hE : zcVal Z (sc (i + 1).toNat) (sc (i + 2).toNat) (sc (i + 3).toNat) = -1 → k = 1 ∧ SIM g Z c) (hO : ¬ zcVal Z (sc (i + 1).toNat) (sc (i + 2).toNat) (sc (i + 3).toNat) = -1 → k = 0 ∧ SIM g (zsee (zs Z 48 0 0) (sc (i + 1).toNat) (sc (i + 2).toNat)) c ∧ ZI (zsee (zs Z 48 0 0) (sc (i + 1).toNat) (sc (i + 2).toNat)) ∧ hL g nO 0 = Int64.ofInt (zsee (zs Z 48 0 0) (sc (i + 1).toNat) (sc (i + 2).toNat) 22 (960 + zcVal Z (sc (i + 1).toNat) (sc (i + 2).toNat) (sc (i + 3).toNat)).toNat))
    (kk : ∀ h2 Z2, LK sc L h2 Z2 c → SIM h2 Z2 c → AW mL_law 14 548 mc ms Q bc bs 2094 h2 (lwl i) []) : AW mL_law 14 548 mc ms Q bc bs 1733 g (lwl i) [vi k] := by
  have B := J.I.1.1
  have R := J.I.1.2.1
  have T := J.I.1.2.2.1
  refine AW.istore dL_law_1733 rfl ?_
  refine AW.aload_n dL_law_1735 rfl ?_
  refine AW.sarg J.S9 hL9 hi (by decide) rfl rfl dL_law_1736 dL_law_1737 dL_law_1739 dL_law_1740 dL_law_1741 ?_
  refine AW.sarg J.S9 hL9 hi (by decide) rfl rfl dL_law_1742 dL_law_1743 dL_law_1745 dL_law_1746 dL_law_1747 ?_
  refine AW.sarg J.S9 hL9 hi (by decide) rfl rfl dL_law_1748 dL_law_1749 dL_law_1751 dL_law_1752 dL_law_1753 ?_
  refine AW.heq J.1 ?_
  refine AW.callV (as := [vi _, vi _, vi _]) dL_law_1754 rfl rfl rfl okX8_value lkL_182 J.W.1 rfl rfl rfl rfl b0 b0 rfl (kX8_value J.W B R T (fun e => ?_) (fun e t u w => ?_))
  · obtain ⟨rfl, S⟩ := hE e
    have X := J.put (Y := zs Z 48 0 (1)) J.I.w48 (S.zj zs48_j)
    exact AW.k1 (law_tail dL_law_1757 dL_law_1759 dL_law_1760 dL_law_1763 dL_law_1765 dL_law_1770 dL_law_1772 dL_law_1775 dL_law_1776 dL_law_1777 dL_law_1778 dL_law_1780 dL_law_1781 dL_law_1782 dL_law_1787 rfl J.W (zs_eq rfl rfl) (fun z => absurd z (by decide)) J.O (kk _ _ X.1 X.2))
  · obtain ⟨rfl, S, I2, ho⟩ := hO e
    have X := J.put (Y := z3 (zsee (zs Z 48 0 0) (sc (i + 1).toNat) (sc (i + 2).toNat)) t u w) I2.r3 (S.zj z3_j)
    exact AW.k1 (law_tail dL_law_1757 dL_law_1759 dL_law_1760 dL_law_1763 dL_law_1765 dL_law_1770 dL_law_1772 dL_law_1775 dL_law_1776 dL_law_1777 dL_law_1778 dL_law_1780 dL_law_1781 dL_law_1782 dL_law_1787 rfl J.W (z3_ne rfl (th_see)) (fun _ => ho) J.O (kk _ _ X.1 X.2))
set_option maxHeartbeats 1000000 in
theorem lw2_replayed (J : LK sc L g Z c) (hL9 : L < 2147483648) (hi : 0 ≤ i ∧ i + 6 ≤ (L : Int)) (hE : zinR Z (sc (i + 1).toNat) (sc (i + 2).toNat) = -1 → k = 1 ∧ SIM g Z c) (hO : ¬ zinR Z (sc (i + 1).toNat) (sc (i + 2).toNat) = -1 → k = 0 ∧ SIM g (zs Z 48 0 0) c ∧ ZI (zs Z 48 0 0) ∧ hL g nO 0 = Int64.ofInt (Z 22 (48 * (sc (i + 1).toNat) + zinR Z (sc (i + 1).toNat) (sc (i + 2).toNat)).toNat))
    (kk : ∀ h2 Z2, LK sc L h2 Z2 c → SIM h2 Z2 c → AW mL_law 14 548 mc ms Q bc bs 2094 h2 (lwl i) []) : AW mL_law 14 548 mc ms Q bc bs 1807 g (lwl i) [vi k] := by
  have B := J.I.1.1
  have R := J.I.1.2.1
  refine AW.istore dL_law_1807 rfl ?_
  refine AW.aload_n dL_law_1809 rfl ?_
  refine AW.sarg J.S9 hL9 hi (by decide) rfl rfl dL_law_1810 dL_law_1811 dL_law_1813 dL_law_1814 dL_law_1815 ?_
  refine AW.sarg J.S9 hL9 hi (by decide) rfl rfl dL_law_1816 dL_law_1817 dL_law_1819 dL_law_1820 dL_law_1821 ?_
  refine AW.heq J.1 ?_
  refine AW.callV (as := [vi _, vi _]) dL_law_1822 rfl rfl rfl okX8_replayed lkL_185 J.W.1 rfl rfl rfl rfl b0 b0 rfl (kX8_replayed J.W B R (fun e => ?_) (fun e => ?_))
  · obtain ⟨rfl, S⟩ := hE e
    have X := J.put (Y := zs Z 48 0 (1)) J.I.w48 (S.zj zs48_j)
    exact AW.k1 (law_tail dL_law_1825 dL_law_1827 dL_law_1828 dL_law_1831 dL_law_1833 dL_law_1838 dL_law_1840 dL_law_1843 dL_law_1844 dL_law_1845 dL_law_1846 dL_law_1848 dL_law_1849 dL_law_1850 dL_law_1855 rfl J.W (zs_eq rfl rfl) (fun z => absurd z (by decide)) J.O (kk _ _ X.1 X.2))
  · obtain ⟨rfl, S, I2, ho⟩ := hO e
    have X := J.put I2 S
    exact AW.k1 (law_tail dL_law_1825 dL_law_1827 dL_law_1828 dL_law_1831 dL_law_1833 dL_law_1838 dL_law_1840 dL_law_1843 dL_law_1844 dL_law_1845 dL_law_1846 dL_law_1848 dL_law_1849 dL_law_1850 dL_law_1855 rfl J.W (rfl) (fun _ => ho) J.O (kk _ _ X.1 X.2))
set_option maxHeartbeats 1000000 in
theorem lw2_standing (J : LK sc L g Z c) (hL9 : L < 2147483648) (hi : 0 ≤ i ∧ i + 6 ≤ (L : Int)) (hE : ¬ (0 ≤ (sc (i + 1).toNat) ∧ (sc (i + 1).toNat) ≤ Z 19 0 - 1) → k = 1 ∧ SIM g Z c) (hO : (0 ≤ (sc (i + 1).toNat) ∧ (sc (i + 1).toNat) ≤ Z 19 0 - 1) → k = 0 ∧ SIM g (zs Z 48 0 0) c ∧ ZI (zs Z 48 0 0) ∧ hL g nO 0 = Int64.ofInt (zStd Z (sc (i + 1).toNat)))
    (kk : ∀ h2 Z2, LK sc L h2 Z2 c → SIM h2 Z2 c → AW mL_law 14 548 mc ms Q bc bs 2094 h2 (lwl i) []) : AW mL_law 14 548 mc ms Q bc bs 1869 g (lwl i) [vi k] := by
  have B := J.I.1.1
  have R := J.I.1.2.1
  refine AW.istore dL_law_1869 rfl ?_
  refine AW.aload_n dL_law_1871 rfl ?_
  refine AW.sarg J.S9 hL9 hi (by decide) rfl rfl dL_law_1872 dL_law_1873 dL_law_1875 dL_law_1876 dL_law_1877 ?_
  refine AW.heq J.1 ?_
  refine AW.callV (as := [vi _]) dL_law_1878 rfl rfl rfl okX8_standing lkL_188 J.W.1 rfl rfl rfl rfl b0 b0 rfl (kX8_standing J.W B R (fun e => ?_) (fun e => ?_))
  · obtain ⟨rfl, S⟩ := hE e
    have X := J.put (Y := zs Z 48 0 (1)) J.I.w48 (S.zj zs48_j)
    exact AW.k1 (law_tail dL_law_1881 dL_law_1883 dL_law_1884 dL_law_1887 dL_law_1889 dL_law_1894 dL_law_1896 dL_law_1899 dL_law_1900 dL_law_1901 dL_law_1902 dL_law_1904 dL_law_1905 dL_law_1906 dL_law_1911 rfl J.W (zs_eq rfl rfl) (fun z => absurd z (by decide)) J.O (kk _ _ X.1 X.2))
  · obtain ⟨rfl, S, I2, ho⟩ := hO e
    have X := J.put I2 S
    exact AW.k1 (law_tail dL_law_1881 dL_law_1883 dL_law_1884 dL_law_1887 dL_law_1889 dL_law_1894 dL_law_1896 dL_law_1899 dL_law_1900 dL_law_1901 dL_law_1902 dL_law_1904 dL_law_1905 dL_law_1906 dL_law_1911 rfl J.W (rfl) (fun _ => ho) J.O (kk _ _ X.1 X.2))
set_option maxHeartbeats 1000000 in
theorem lw2_mover (J : LK sc L g Z c) (hL9 : L < 2147483648) (hi : 0 ≤ i ∧ i + 6 ≤ (L : Int)) (hE : 0 < zcVer Z (sc (i + 1).toNat) (sc (i + 2).toNat) (Z 28 0 = 8) → k = zcVer Z (sc (i + 1).toNat) (sc (i + 2).toNat) (Z 28 0 = 8) ∧ SIM g Z c) (hO : zcVer Z (sc (i + 1).toNat) (sc (i + 2).toNat) (Z 28 0 = 8) = 0 → k = 0 ∧ SIM g (zMov Z (sc (i + 1).toNat) (sc (i + 2).toNat)) c ∧ ZI (zMov Z (sc (i + 1).toNat) (sc (i + 2).toNat)) ∧ hL g nO 0 = Int64.ofInt (Z 28 0))
    (kk : ∀ h2 Z2, LK sc L h2 Z2 c → SIM h2 Z2 c → AW mL_law 14 548 mc ms Q bc bs 2094 h2 (lwl i) []) : AW mL_law 14 548 mc ms Q bc bs 1931 g (lwl i) [vi k] := by
  have B := J.I.1.1
  have M := J.I.1.2.2.2.1
  refine AW.istore dL_law_1931 rfl ?_
  refine AW.aload_n dL_law_1933 rfl ?_
  refine AW.sarg J.S9 hL9 hi (by decide) rfl rfl dL_law_1934 dL_law_1935 dL_law_1937 dL_law_1938 dL_law_1939 ?_
  refine AW.sarg J.S9 hL9 hi (by decide) rfl rfl dL_law_1940 dL_law_1941 dL_law_1943 dL_law_1944 dL_law_1945 ?_
  refine AW.heq J.1 ?_
  refine AW.callV (as := [vi _, vi _]) dL_law_1946 rfl rfl rfl okX8_mover lkL_191 J.W.1 rfl rfl rfl rfl b0 b0 rfl (kX8_mover J.W B M (fun e => ?_) (fun e => ?_))
  · obtain ⟨rfl, S⟩ := hE e
    have X := J.put (Y := zs Z 48 0 (zcVer Z (sc (i + 1).toNat) (sc (i + 2).toNat) (Z 28 0 = 8))) J.I.w48 (S.zj zs48_j)
    exact AW.k1 (law_tail dL_law_1949 dL_law_1951 dL_law_1952 dL_law_1955 dL_law_1957 dL_law_1962 dL_law_1964 dL_law_1967 dL_law_1968 dL_law_1969 dL_law_1970 dL_law_1972 dL_law_1973 dL_law_1974 dL_law_1979 rfl J.W (zs_eq rfl rfl) (fun z => absurd z (by omega)) J.O (kk _ _ X.1 X.2))
  · obtain ⟨rfl, S, I2, ho⟩ := hO e
    have X := J.put I2 S
    exact AW.k1 (law_tail dL_law_1949 dL_law_1951 dL_law_1952 dL_law_1955 dL_law_1957 dL_law_1962 dL_law_1964 dL_law_1967 dL_law_1968 dL_law_1969 dL_law_1970 dL_law_1972 dL_law_1973 dL_law_1974 dL_law_1979 rfl J.W (th_mov) (fun _ => ho) J.O (kk _ _ X.1 X.2))
set_option maxHeartbeats 1000000 in
theorem lw2_step (J : LK sc L g Z c) (hX : 0 ≤ Z 32 0 ∧ Z 32 0 < 4096) (hL9 : L < 2147483648) (hi : 0 ≤ i ∧ i + 6 ≤ (L : Int)) (hE : 0 < zcStp Z (sc (i + 1).toNat) → k = zcStp Z (sc (i + 1).toNat) ∧ SIM g Z c) (hO : zcStp Z (sc (i + 1).toNat) = 0 → k = 0 ∧ SIM g (zStp Z (znx Z (sc (i + 1).toNat)) (sc (i + 1).toNat)) c ∧ ZI (zStp Z (znx Z (sc (i + 1).toNat)) (sc (i + 1).toNat)) ∧ hL g nO 0 = Int64.ofInt (znx Z (sc (i + 1).toNat)))
    (kk : ∀ h2 Z2, LK sc L h2 Z2 c → SIM h2 Z2 c → AW mL_law 14 548 mc ms Q bc bs 2094 h2 (lwl i) []) : AW mL_law 14 548 mc ms Q bc bs 1993 g (lwl i) [vi k] := by
  have B := J.I.1.1
  have R := J.I.1.2.1
  have T := J.I.1.2.2.1
  have M := J.I.1.2.2.2.1
  refine AW.istore dL_law_1993 rfl ?_
  refine AW.aload_n dL_law_1995 rfl ?_
  refine AW.sarg J.S9 hL9 hi (by decide) rfl rfl dL_law_1996 dL_law_1997 dL_law_1999 dL_law_2000 dL_law_2001 ?_
  refine AW.heq J.1 ?_
  refine AW.callV (as := [vi _]) dL_law_2002 rfl rfl rfl okX8_step lkL_194 J.W.1 rfl rfl rfl rfl b0 b0 rfl (kX8_step J.W B R T M hX (fun e => ?_) (fun e t u w => ?_))
  · obtain ⟨rfl, S⟩ := hE e
    have X := J.put (Y := zs Z 48 0 (zcStp Z (sc (i + 1).toNat))) J.I.w48 (S.zj zs48_j)
    exact AW.k1 (law_tail dL_law_2005 dL_law_2007 dL_law_2008 dL_law_2011 dL_law_2013 dL_law_2018 dL_law_2020 dL_law_2023 dL_law_2024 dL_law_2025 dL_law_2026 dL_law_2028 dL_law_2029 dL_law_2030 dL_law_2035 rfl J.W (zs_eq rfl rfl) (fun z => absurd z (by omega)) J.O (kk _ _ X.1 X.2))
  · obtain ⟨rfl, S, I2, ho⟩ := hO e
    have X := J.put (Y := z3 (zStp Z (znx Z (sc (i + 1).toNat)) (sc (i + 1).toNat)) t u w) I2.r3 (S.zj z3_j)
    exact AW.k1 (law_tail dL_law_2005 dL_law_2007 dL_law_2008 dL_law_2011 dL_law_2013 dL_law_2018 dL_law_2020 dL_law_2023 dL_law_2024 dL_law_2025 dL_law_2026 dL_law_2028 dL_law_2029 dL_law_2030 dL_law_2035 rfl J.W (z3_ne rfl (th_stp)) (fun _ => ho) J.O (kk _ _ X.1 X.2))
set_option maxHeartbeats 1000000 in
theorem lw2_undo (J : LK sc L g Z c) (hL9 : L < 2147483648) (hi : 0 ≤ i ∧ i + 6 ≤ (L : Int)) (hE : 0 < zcUnd Z (sc (i + 1).toNat) → k = zcUnd Z (sc (i + 1).toNat) ∧ SIM g Z c) (hO : zcUnd Z (sc (i + 1).toNat) = 0 → k = 0 ∧ SIM g (zUnd Z (sc (i + 1).toNat) (Z 31 ((sc (i + 1).toNat)).toNat)) c ∧ ZI (zUnd Z (sc (i + 1).toNat) (Z 31 ((sc (i + 1).toNat)).toNat)) ∧ hL g nO 0 = Int64.ofInt (Z 34 (Z 31 ((sc (i + 1).toNat)).toNat).toNat))
    (kk : ∀ h2 Z2, LK sc L h2 Z2 c → SIM h2 Z2 c → AW mL_law 14 548 mc ms Q bc bs 2094 h2 (lwl i) []) : AW mL_law 14 548 mc ms Q bc bs 2049 g (lwl i) [vi k] := by
  have B := J.I.1.1
  have R := J.I.1.2.1
  have M := J.I.1.2.2.2.1
  have L9 := J.I.1.2.2.2.2.1
  refine AW.istore dL_law_2049 rfl ?_
  refine AW.aload_n dL_law_2051 rfl ?_
  refine AW.sarg J.S9 hL9 hi (by decide) rfl rfl dL_law_2052 dL_law_2053 dL_law_2055 dL_law_2056 dL_law_2057 ?_
  refine AW.heq J.1 ?_
  refine AW.callV (as := [vi _]) dL_law_2058 rfl rfl rfl okX8_undo lkL_197 J.W.1 rfl rfl rfl rfl b0 b0 rfl (kX8_undo J.W B R M L9 (fun e => ?_) (fun e => ?_))
  · obtain ⟨rfl, S⟩ := hE e
    have X := J.put (Y := zs Z 48 0 (zcUnd Z (sc (i + 1).toNat))) J.I.w48 (S.zj zs48_j)
    exact AW.k1 (law_tail dL_law_2061 dL_law_2063 dL_law_2064 dL_law_2067 dL_law_2069 dL_law_2074 dL_law_2076 dL_law_2079 dL_law_2080 dL_law_2081 dL_law_2082 dL_law_2084 dL_law_2085 dL_law_2086 dL_law_2091 rfl J.W (zs_eq rfl rfl) (fun z => absurd z (by omega)) J.O (kk _ _ X.1 X.2))
  · obtain ⟨rfl, S, I2, ho⟩ := hO e
    have X := J.put I2 S
    exact AW.k1 (law_tail dL_law_2061 dL_law_2063 dL_law_2064 dL_law_2067 dL_law_2069 dL_law_2074 dL_law_2076 dL_law_2079 dL_law_2080 dL_law_2081 dL_law_2082 dL_law_2084 dL_law_2085 dL_law_2086 dL_law_2091 rfl J.W (th_und) (fun _ => ho) J.O (kk _ _ X.1 X.2))
end LW1

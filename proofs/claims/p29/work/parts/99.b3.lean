/-! ===== the law's moves ===== -/
section B3
variable {Q : AH → AO → Prop} {h g G : AH} {Z Y D C : ZT} {rl rz a : Nat} {mc ms bc bs : Nat} {loc : AL}
theorem AW.hin {M : MI} {fr lo mc ms bc bs pc : Nat} {st : List AV} (n : Nm) (i : Nat) (k : inR (hI h n i) → AW M fr lo mc ms Q bc bs pc h loc st) : AW M fr lo mc ms Q bc bs pc h loc st := by
  intro p l e s m args below meth c D dA B0 H0 C dom0 al0 al H locs cells slots ls hR hA hS hc hs ho hv hl
  exact k (hR.2.2.1 n i) p l e s m args below meth c D dA B0 H0 C dom0 al0 al H locs cells slots ls hR hA hS hc hs ho hv hl
theorem wv_T {rl : Nat} {f x : Int} : hT (wv h rl f x) = hT h := by unfold wv; split <;> rfl
theorem LT.wv {rl : Nat} {f x : Int} (T : LT h) : LT (wv h rl f x) := by unfold LT at *; rw [wv_T]; exact T
theorem LSc.fr (F : FR rl h g) (S : LSc h Z) : LSc g Z := S.fl F.1 (by decide) (by decide) (by decide) (by decide)
theorem mv_gone {f : Int} (T : LT h) (hr : rl < 5) (hf : f < 10) (l20 : lget loc 20 = some (vi f)) (l3 : lget loc 3 = some (vr (la 5))) (l6 : lget loc 6 = some (vi (rl : Int))) (k : AW mL_moves fL_moves loL_moves mc ms Q bc bs 457 (wv h rl f (-1)) loc []) : AW mL_moves fL_moves loL_moves mc ms Q bc bs 441 h loc [] := by
  unfold wv at k
  refine AW.iload dL_moves_441 l20 ?_
  refine AW.if_lt (tgt := 457) dL_moves_443 rfl (fun c => ?_) (fun c => ?_)
  · rw [if_pos c] at k; exact k
  · rw [if_neg (by omega), show 10 * rl + f.toNat = (10 * (rl : Int) + f).toNat by omega] at k
    refine AW.aload_n dL_moves_446 l3 ?_
    refine AW.bipush dL_moves_447 bp_10 (by decide) ?_
    refine AW.iload dL_moves_449 l6 ?_
    refine AW.imulB dL_moves_451 (by omega) ?_
    refine AW.iload dL_moves_452 l20 ?_
    refine AW.iaddB dL_moves_454 (by omega) ?_
    refine AW.iconst dL_moves_455 (by decide) ?_
    exact AW.astI dL_moves_456 T.a5 (by omega) (by omega) k
theorem mv_put0 {f x : Int} (T : LT h) (hr : rl < 5) (hf : f < 10) (l19 : lget loc 19 = some (vi f)) (l15 : lget loc 15 = some (vi x)) (l3 : lget loc 3 = some (vr (la 5))) (l6 : lget loc 6 = some (vi (rl : Int))) (k : AW mL_moves fL_moves loL_moves mc ms Q bc bs 536 (wv h rl f x) loc []) : AW mL_moves fL_moves loL_moves mc ms Q bc bs 519 h loc [] := by
  unfold wv at k
  refine AW.iload dL_moves_519 l19 ?_
  refine AW.if_lt (tgt := 536) dL_moves_521 rfl (fun c => ?_) (fun c => ?_)
  · rw [if_pos c] at k; exact k
  · rw [if_neg (by omega), show 10 * rl + f.toNat = (10 * (rl : Int) + f).toNat by omega] at k
    refine AW.aload_n dL_moves_524 l3 ?_
    refine AW.bipush dL_moves_525 bp_10 (by decide) ?_
    refine AW.iload dL_moves_527 l6 ?_
    refine AW.imulB dL_moves_529 (by omega) ?_
    refine AW.iload dL_moves_530 l19 ?_
    refine AW.iaddB dL_moves_532 (by omega) ?_
    refine AW.iload dL_moves_533 l15 ?_
    exact AW.astI dL_moves_535 T.a5 (by omega) (by omega) k
theorem mv_put1 {f x : Int} (T : LT h) (hr : rl < 5) (hf : f < 10) (l20 : lget loc 20 = some (vi f)) (l16 : lget loc 16 = some (vi x)) (l3 : lget loc 3 = some (vr (la 5))) (l6 : lget loc 6 = some (vi (rl : Int))) (k : AW mL_moves fL_moves loL_moves mc ms Q bc bs 553 (wv h rl f x) loc []) : AW mL_moves fL_moves loL_moves mc ms Q bc bs 536 h loc [] := by
  unfold wv at k
  refine AW.iload dL_moves_536 l20 ?_
  refine AW.if_lt (tgt := 553) dL_moves_538 rfl (fun c => ?_) (fun c => ?_)
  · rw [if_pos c] at k; exact k
  · rw [if_neg (by omega), show 10 * rl + f.toNat = (10 * (rl : Int) + f).toNat by omega] at k
    refine AW.aload_n dL_moves_541 l3 ?_
    refine AW.bipush dL_moves_542 bp_10 (by decide) ?_
    refine AW.iload dL_moves_544 l6 ?_
    refine AW.imulB dL_moves_546 (by omega) ?_
    refine AW.iload dL_moves_547 l20 ?_
    refine AW.iaddB dL_moves_549 (by omega) ?_
    refine AW.iload dL_moves_550 l16 ?_
    exact AW.astI dL_moves_552 T.a5 (by omega) (by omega) k
set_option maxHeartbeats 2000000 in
theorem mv_C0 {r0 r1 nm : Int} (T : LT g) (S : LSc g Z) (K : QS Z) (h1 : 1 ≤ a) (ha : (a : Int) ≤ Z 1 0) (hr : rl < 5) (R : LR g D rl rz) (eD : ∀ j, sj j = true → D j = Z j) (en : nm = if Z 7 a = 1 then 1 else 0)
    (k : ∀ G, FR rl g G → LR G (zmvE D (rz : Int) (a : Int) 0 0 r0 r1) rl rz → Q G (.inl none)) :
    AW mL_moves fL_moves loL_moves mc ms Q bc bs 418 g [(16, vi r1), (15, vi r0), (12, vi (zo Z a 0 1)), (11, vi (zo Z a 0 0)), (10, vi nm), (9, vi (a : Int)), (0, vr (la 1)), (1, vr (la 2)), (2, vr (la 3)), (3, vr (la 5)), (4, vr (la 6)), (5, vr (la 7)), (6, vi (rl : Int)), (7, vi 0), (8, vr (la 9))] [] := by
  have b1 := K.b1
  have b2 := K.b2
  have f0 := zo_r K h1 ha 0 0 (Or.inl rfl)
  have f1 := zo_r K h1 ha 0 1 (Or.inr rfl)
  have t0 := zo_r K h1 ha 1 0 (Or.inl rfl)
  have t1 := zo_r K h1 ha 1 1 (Or.inr rfl)
  rw [zE_n, zo_c eD, zo_c eD, zo_c eD, zo_c eD, show nu (0 : Int) = 1 from rfl] at k
  have last : ∀ {G : AH} {l : AL}, LT G → FR rl g G → LR G (zv (zv D (rz : Int) (zo Z a 0 0) (-1)) (rz : Int) (zo Z a 0 1) (-1)) rl rz → AW mL_moves fL_moves loL_moves mc ms Q bc bs 519 G [(20, vi (zo Z a 1 1)), (19, vi (zo Z a 1 0)), (16, vi r1), (15, vi r0), (9, vi (a : Int)), (0, vr (la 1)), (1, vr (la 2)), (2, vr (la 3)), (3, vr (la 5)), (4, vr (la 6)), (5, vr (la 7)), (6, vi (rl : Int)), (7, vi 0), (8, vr (la 9))] [] := by
    intro G l T F R
    refine mv_put0 T hr (by omega) rfl rfl rfl rfl ?_
    refine mv_put1 T.wv hr (by omega) rfl rfl rfl rfl ?_
    have T := (T.wv (rl := rl) (f := zo Z a 1 0) (x := r0)).wv (rl := rl) (f := zo Z a 1 1) (x := r1)
    refine AW.aload dL_moves_553 rfl ?_
    refine AW.iconst dL_moves_555 (by decide) ?_
    refine AW.iload dL_moves_556 rfl ?_
    refine AW.imulB dL_moves_558 (by omega) ?_
    refine AW.iload dL_moves_559 rfl ?_
    refine AW.if_eqT (tgt := 569) dL_moves_561 rfl (by omega) ?_
    refine AW.iload dL_moves_569 rfl ?_
    refine AW.iconst dL_moves_571 (by decide) ?_
    refine AW.isubB dL_moves_572 (by omega) ?_
    refine AW.top (y := if (0 : Int) = 0 then (a : Int) - 1 else (a : Int)) rfl ?_
    refine AW.astI dL_moves_573 T.a6 (by omega) (by omega) ?_
    refine AW.vret dL_moves_574 rfl ?_
    refine k _ (((F.wv (by omega)).wv (by omega)).w6 (k := 0) (by decide)) ?_
    exact ((R.wv (by omega)).wv (by omega)).ver
  have mid : AW mL_moves fL_moves loL_moves mc ms Q bc bs 463 (wv (wv g rl (zo Z a 0 0) (-1)) rl (zo Z a 0 1) (-1)) [(16, vi r1), (15, vi r0), (10, vi nm), (9, vi (a : Int)), (0, vr (la 1)), (1, vr (la 2)), (2, vr (la 3)), (3, vr (la 5)), (4, vr (la 6)), (5, vr (la 7)), (6, vi (rl : Int)), (7, vi 0), (8, vr (la 9))] [] := by
    have F : FR rl g (wv (wv g rl (zo Z a 0 0) (-1)) rl (zo Z a 0 1) (-1)) := ((FR.rf (rl := rl)).wv (by omega)).wv (by omega)
    have R2 := (R.wv (f := zo Z a 0 0) (x := -1) (by omega)).wv (f := zo Z a 0 1) (x := -1) (by omega)
    have T := T.wv.wv (rl := rl) (f := zo Z a 0 1) (x := -1) |> fun (t : LT (wv (wv g rl (zo Z a 0 0) (-1)) rl (zo Z a 0 1) (-1))) => t
    have S := S.fr F
    by_cases hw : Z 7 a = 1
    · have en : nm = 1 := by rw [en, if_pos hw]
      subst en
      have e0 : ∀ j, zo Z a 1 j = -1 := fun j => by unfold zo; rw [if_pos hw]
      refine AW.iload dL_moves_463 rfl ?_
      refine AW.if_eqF (tgt := 472) dL_moves_465 rfl (by omega) ?_
      refine AW.iconst dL_moves_468 (by decide) ?_
      refine AW.goto (tgt := 489) dL_moves_469 rfl ?_
      refine AW.istore dL_moves_489 rfl ?_
      refine AW.iload dL_moves_491 rfl ?_
      refine AW.if_eqF (tgt := 500) dL_moves_493 rfl (by omega) ?_
      refine AW.iconst dL_moves_496 (by decide) ?_
      refine AW.goto (tgt := 517) dL_moves_497 rfl ?_
      refine AW.istore dL_moves_517 rfl ?_
      refine AW.locs [(20, vi (-1)), (19, vi (-1)), (16, vi r1), (15, vi r0), (9, vi (a : Int)), (0, vr (la 1)), (1, vr (la 2)), (2, vr (la 3)), (3, vr (la 5)), (4, vr (la 6)), (5, vr (la 7)), (6, vi (rl : Int)), (7, vi 0), (8, vr (la 9))] ⟨rfl, rfl, rfl, rfl, rfl, rfl, rfl, rfl, rfl, rfl, rfl, rfl, rfl, rfl, trivial⟩ ?_
      have q := last (l := []) T F R2
      rw [e0, e0] at q
      exact q
    · have en : nm = 0 := by rw [en, if_neg hw]
      subst en
      have e0 : ∀ j, zsd Z a 1 j = zo Z a 1 j := fun j => by unfold zo; rw [if_neg hw]
      refine AW.iload dL_moves_463 rfl ?_
      refine AW.if_eqT (tgt := 472) dL_moves_465 rfl (by omega) ?_
      refine AW.aload_n dL_moves_472 rfl ?_
      refine AW.iload dL_moves_473 rfl ?_
      refine AW.iload dL_moves_475 rfl ?_
      refine AW.if_neF (tgt := 484) dL_moves_477 rfl (by omega) ?_
      refine AW.iconst dL_moves_480 (by decide) ?_
      refine AW.goto (tgt := 485) dL_moves_481 rfl ?_
      refine AW.iconst dL_moves_485 (by decide) ?_
      refine AW.callS (as := [vq _, vi _, vi _, vi _]) dL_moves_486 rfl rfl rfl okL_side lkL_86 rfl rfl rfl (leb (by omega)) (leb (by omega)) rfl (kL_side T S K h1 ha (by omega) (by omega) (AW.k1 ?_))
      refine AW.top (y := zo Z a 1 0) (e0 0) ?_
      refine AW.istore dL_moves_489 rfl ?_
      refine AW.iload dL_moves_491 rfl ?_
      refine AW.if_eqT (tgt := 500) dL_moves_493 rfl (by omega) ?_
      refine AW.aload_n dL_moves_500 rfl ?_
      refine AW.iload dL_moves_501 rfl ?_
      refine AW.iload dL_moves_503 rfl ?_
      refine AW.if_neF (tgt := 512) dL_moves_505 rfl (by omega) ?_
      refine AW.iconst dL_moves_508 (by decide) ?_
      refine AW.goto (tgt := 513) dL_moves_509 rfl ?_
      refine AW.iconst dL_moves_513 (by decide) ?_
      refine AW.callS (as := [vq _, vi _, vi _, vi _]) dL_moves_514 rfl rfl rfl okL_side lkL_86 rfl rfl rfl (leb (by omega)) (leb (by omega)) rfl (kL_side T S K h1 ha (by omega) (by omega) (AW.k1 ?_))
      refine AW.top (y := zo Z a 1 1) (e0 1) ?_
      refine AW.istore dL_moves_517 rfl ?_
      exact AW.locs [(20, vi (zo Z a 1 1)), (19, vi (zo Z a 1 0)), (16, vi r1), (15, vi r0), (9, vi (a : Int)), (0, vr (la 1)), (1, vr (la 2)), (2, vr (la 3)), (3, vr (la 5)), (4, vr (la 6)), (5, vr (la 7)), (6, vi (rl : Int)), (7, vi 0), (8, vr (la 9))] ⟨rfl, rfl, rfl, rfl, rfl, rfl, rfl, rfl, rfl, rfl, rfl, rfl, rfl, rfl, trivial⟩ (last (l := []) T F R2)
  have snd : AW mL_moves fL_moves loL_moves mc ms Q bc bs 457 (wv g rl (zo Z a 0 0) (-1)) [(19, vi 0), (16, vi r1), (15, vi r0), (12, vi (zo Z a 0 1)), (10, vi nm), (9, vi (a : Int)), (0, vr (la 1)), (1, vr (la 2)), (2, vr (la 3)), (3, vr (la 5)), (4, vr (la 6)), (5, vr (la 7)), (6, vi (rl : Int)), (7, vi 0), (8, vr (la 9))] [] := by
    refine AW.iincB dL_moves_457 rfl rfl (by omega) ?_
    refine AW.goto (tgt := 421) dL_moves_460 rfl ?_
    refine AW.iload dL_moves_421 rfl ?_
    refine AW.iconst dL_moves_423 (by decide) ?_
    refine AW.icmp_geF (tgt := 463) dL_moves_424 rfl (by omega) ?_
    refine AW.iload dL_moves_427 rfl ?_
    refine AW.if_neT (tgt := 437) dL_moves_429 rfl (by omega) ?_
    refine AW.iload dL_moves_437 rfl ?_
    refine AW.istore dL_moves_439 rfl ?_
    refine mv_gone T.wv hr (by omega) rfl rfl rfl ?_
    refine AW.iincB dL_moves_457 rfl rfl (by omega) ?_
    refine AW.goto (tgt := 421) dL_moves_460 rfl ?_
    refine AW.iload dL_moves_421 rfl ?_
    refine AW.iconst dL_moves_423 (by decide) ?_
    refine AW.icmp_geT (tgt := 463) dL_moves_424 rfl (by omega) ?_
    exact AW.locs [(16, vi r1), (15, vi r0), (10, vi nm), (9, vi (a : Int)), (0, vr (la 1)), (1, vr (la 2)), (2, vr (la 3)), (3, vr (la 5)), (4, vr (la 6)), (5, vr (la 7)), (6, vi (rl : Int)), (7, vi 0), (8, vr (la 9))] ⟨rfl, rfl, rfl, rfl, rfl, rfl, rfl, rfl, rfl, rfl, rfl, rfl, rfl, trivial⟩ mid
  refine AW.iconst dL_moves_418 (by decide) ?_
  refine AW.istore dL_moves_419 rfl ?_
  refine AW.iload dL_moves_421 rfl ?_
  refine AW.iconst dL_moves_423 (by decide) ?_
  refine AW.icmp_geF (tgt := 463) dL_moves_424 rfl (by omega) ?_
  refine AW.iload dL_moves_427 rfl ?_
  refine AW.if_neF (tgt := 437) dL_moves_429 rfl (by omega) ?_
  refine AW.iload dL_moves_432 rfl ?_
  refine AW.goto (tgt := 439) dL_moves_434 rfl ?_
  refine AW.istore dL_moves_439 rfl ?_
  refine mv_gone T hr (by omega) rfl rfl rfl ?_
  exact AW.locs [(19, vi 0), (16, vi r1), (15, vi r0), (12, vi (zo Z a 0 1)), (10, vi nm), (9, vi (a : Int)), (0, vr (la 1)), (1, vr (la 2)), (2, vr (la 3)), (3, vr (la 5)), (4, vr (la 6)), (5, vr (la 7)), (6, vi (rl : Int)), (7, vi 0), (8, vr (la 9))] ⟨rfl, rfl, rfl, rfl, rfl, rfl, rfl, rfl, rfl, rfl, rfl, rfl, rfl, rfl, rfl, trivial⟩ snd
set_option maxHeartbeats 2000000 in
theorem mv_B0 {r0 r1 nm l0 l1 : Int} (T : LT g) (S : LSc g Z) (K : QS Z) (h1 : 1 ≤ a) (ha : (a : Int) ≤ Z 1 0) (hr : rl < 5) (R : LR g C rl rz) (eC : ∀ j, sj j = true → C j = Z j) (en : nm = if Z 7 a = 1 then 1 else 0)
    (hl0 : -1 ≤ l0 ∧ l0 ≤ 9999) (hl1 : -1 ≤ l1 ∧ l1 ≤ 9999) (hr0 : -1 ≤ r0 ∧ r0 ≤ 9999) (hr1 : -1 ≤ r1 ∧ r1 ≤ 9999)
    (k : ∀ G, FR rl g G → LR G (zmvE (zmvD C 0 (a : Int) (24 * (rz : Int) + (a : Int)) 0 l0 l1 r0 r1) (rz : Int) (a : Int) 0 0 r0 r1) rl rz → Q G (.inl none)) :
    AW mL_moves fL_moves loL_moves mc ms Q bc bs 333 g [(16, vi r1), (15, vi r0), (14, vi l1), (13, vi l0), (12, vi (zo Z a 0 1)), (11, vi (zo Z a 0 0)), (10, vi nm), (9, vi (a : Int)), (0, vr (la 1)), (1, vr (la 2)), (2, vr (la 3)), (3, vr (la 5)), (4, vr (la 6)), (5, vr (la 7)), (6, vi (rl : Int)), (7, vi 0), (8, vr (la 9))] [] := by
  have b1 := K.b1
  have go : ∀ {G : AH} {D : ZT}, LT G → FR rl g G → LR G D rl rz → (∀ j, sj j = true → D j = Z j) → zmvD C 0 (a : Int) (24 * (rz : Int) + (a : Int)) 0 l0 l1 r0 r1 = D → AW mL_moves fL_moves loL_moves mc ms Q bc bs 418 G [(16, vi r1), (15, vi r0), (12, vi (zo Z a 0 1)), (11, vi (zo Z a 0 0)), (10, vi nm), (9, vi (a : Int)), (0, vr (la 1)), (1, vr (la 2)), (2, vr (la 3)), (3, vr (la 5)), (4, vr (la 6)), (5, vr (la 7)), (6, vi (rl : Int)), (7, vi 0), (8, vr (la 9))] [] := fun T2 F2 R2 e2 eq => mv_C0 T2 (S.fr F2) K h1 ha hr R2 e2 en (fun G F3 R3 => k G (F2.tr F3) (by rw [eq]; exact R3))
  by_cases q : zG0 Z 1 0 (a : Int) r0 r1 = l0 ∧ zG1 Z 1 0 (a : Int) r0 = l1
  · have eq : zmvD C 0 (a : Int) (24 * (rz : Int) + (a : Int)) 0 l0 l1 r0 r1 = C := zD_no (by rw [zG0_y eC, zG1_y eC]; exact q)
    refine AW.aload_n dL_moves_333 rfl ?_
    refine AW.aload_n dL_moves_334 rfl ?_
    refine AW.aload_n dL_moves_335 rfl ?_
    refine AW.iload dL_moves_336 rfl ?_
    refine AW.iload dL_moves_338 rfl ?_
    refine AW.if_neF (tgt := 347) dL_moves_340 rfl (by omega) ?_
    refine AW.iconst dL_moves_343 (by decide) ?_
    refine AW.goto (tgt := 348) dL_moves_344 rfl ?_
    refine AW.iload dL_moves_348 rfl ?_
    refine AW.iload dL_moves_350 rfl ?_
    refine AW.aload dL_moves_352 rfl ?_
    refine AW.callS (as := [vq _, vq _, vq _, vi _, vi _, vi _, vi _, vq _]) dL_moves_354 rfl rfl rfl okL_tells lkL_107 rfl rfl rfl (leb (by omega)) (leb (by omega)) rfl (kL_tells T S K h1 ha (by omega) hr0 hr1 (fun g1 F1 x0 x1 => (AW.k0 ?_)))
    refine AW.aload dL_moves_357 rfl ?_
    refine AW.iconst dL_moves_359 (by decide) ?_
    refine AW.aldIE dL_moves_360 (F1.T T).a9 (by omega) (by omega) (by exact x0) ?_
    refine AW.iload dL_moves_361 rfl ?_
    refine AW.icmp_neF (tgt := 375) dL_moves_363 rfl (by exact q.1) ?_
    refine AW.aload dL_moves_366 rfl ?_
    refine AW.iconst dL_moves_368 (by decide) ?_
    refine AW.aldIE dL_moves_369 (F1.T T).a9 (by omega) (by omega) (by exact x1) ?_
    refine AW.iload dL_moves_370 rfl ?_
    refine AW.icmp_eqT (tgt := 418) dL_moves_372 rfl (by exact q.2) ?_
    exact AW.locs [(16, vi r1), (15, vi r0), (12, vi (zo Z a 0 1)), (11, vi (zo Z a 0 0)), (10, vi nm), (9, vi (a : Int)), (0, vr (la 1)), (1, vr (la 2)), (2, vr (la 3)), (3, vr (la 5)), (4, vr (la 6)), (5, vr (la 7)), (6, vi (rl : Int)), (7, vi 0), (8, vr (la 9))] ⟨rfl, rfl, rfl, rfl, rfl, rfl, rfl, rfl, rfl, rfl, rfl, rfl, rfl, rfl, rfl, trivial⟩ (go (F1.T T) (FR.rf.f9 F1) (R.fl F1 (by decide) (by decide) (by decide)) eC eq)
  · have eq : zmvD C 0 (a : Int) (24 * (rz : Int) + (a : Int)) 0 l0 l1 r0 r1 = _ := zD_in (by rw [zG0_y eC, zG1_y eC]; exact q)
    have put : ∀ {G : AH} {l : AL}, LT G → FR rl g G → LR G C rl rz → AW mL_moves fL_moves loL_moves mc ms Q bc bs 375 G [(16, vi r1), (15, vi r0), (14, vi l1), (13, vi l0), (12, vi (zo Z a 0 1)), (11, vi (zo Z a 0 0)), (10, vi nm), (9, vi (a : Int)), (0, vr (la 1)), (1, vr (la 2)), (2, vr (la 3)), (3, vr (la 5)), (4, vr (la 6)), (5, vr (la 7)), (6, vi (rl : Int)), (7, vi 0), (8, vr (la 9))] [] := by
      intro G l T F R
      refine AW.aload dL_moves_375 rfl ?_
      refine AW.bipush dL_moves_377 bp_13 (by decide) ?_
      refine AW.iload dL_moves_379 rfl ?_
      refine AW.imulB dL_moves_381 (by omega) ?_
      refine AW.iload dL_moves_382 rfl ?_
      refine AW.iaddB dL_moves_384 (by omega) ?_
      refine AW.iload dL_moves_385 rfl ?_
      refine AW.if_eqT (tgt := 394) dL_moves_387 rfl (by omega) ?_
      refine AW.ldc2I (2) dL_moves_394 lkL_113 (by decide) ?_
      refine AW.ldc2I (3) dL_moves_397 lkL_111 (by decide) ?_
      refine AW.iload dL_moves_400 rfl ?_
      refine AW.i2l dL_moves_402 ?_
      refine AW.lconstI 1 dL_moves_403 (by decide) ?_
      refine AW.laddI dL_moves_404 ?_
      refine AW.ldc2I (10001) dL_moves_405 lkL_115 (by decide) ?_
      refine AW.iload dL_moves_408 rfl ?_
      refine AW.i2l dL_moves_410 ?_
      refine AW.lconstI 1 dL_moves_411 (by decide) ?_
      refine AW.laddI dL_moves_412 ?_
      refine AW.lmulI dL_moves_413 ?_
      refine AW.laddI dL_moves_414 ?_
      refine AW.lmulI dL_moves_415 ?_
      refine AW.laddI dL_moves_416 ?_
      refine AW.pcs (pc2 := 417) rfl ?_
      refine AW.astL dL_moves_417 T.a7 (by omega) (by omega) ?_
      refine AW.locs [(16, vi r1), (15, vi r0), (12, vi (zo Z a 0 1)), (11, vi (zo Z a 0 0)), (10, vi nm), (9, vi (a : Int)), (0, vr (la 1)), (1, vr (la 2)), (2, vr (la 3)), (3, vr (la 5)), (4, vr (la 6)), (5, vr (la 7)), (6, vi (rl : Int)), (7, vi 0), (8, vr (la 9))] ⟨rfl, rfl, rfl, rfl, rfl, rfl, rfl, rfl, rfl, rfl, rfl, rfl, rfl, rfl, rfl, trivial⟩ ?_
      rw [show (13 * (rl : Int) + (a : Int)).toNat = 13 * rl + a by omega]
      exact go T (F.w7 h1 (by omega)) (R.inn h1 (by omega) (s := if (0 : Int) = 0 then 2 else 1) (by decide) rfl) (sj_tr (sj_tr (sj_tr eC (sj_zs (by decide))) (sj_zs (by decide))) (sj_zs (by decide))) eq
    by_cases q0 : zG0 Z 1 0 (a : Int) r0 r1 = l0
    · have q1 : ¬ zG1 Z 1 0 (a : Int) r0 = l1 := fun z => q ⟨q0, z⟩
      refine AW.aload_n dL_moves_333 rfl ?_
      refine AW.aload_n dL_moves_334 rfl ?_
      refine AW.aload_n dL_moves_335 rfl ?_
      refine AW.iload dL_moves_336 rfl ?_
      refine AW.iload dL_moves_338 rfl ?_
      refine AW.if_neF (tgt := 347) dL_moves_340 rfl (by omega) ?_
      refine AW.iconst dL_moves_343 (by decide) ?_
      refine AW.goto (tgt := 348) dL_moves_344 rfl ?_
      refine AW.iload dL_moves_348 rfl ?_
      refine AW.iload dL_moves_350 rfl ?_
      refine AW.aload dL_moves_352 rfl ?_
      refine AW.callS (as := [vq _, vq _, vq _, vi _, vi _, vi _, vi _, vq _]) dL_moves_354 rfl rfl rfl okL_tells lkL_107 rfl rfl rfl (leb (by omega)) (leb (by omega)) rfl (kL_tells T S K h1 ha (by omega) hr0 hr1 (fun g1 F1 x0 x1 => (AW.k0 ?_)))
      refine AW.aload dL_moves_357 rfl ?_
      refine AW.iconst dL_moves_359 (by decide) ?_
      refine AW.aldIE dL_moves_360 (F1.T T).a9 (by omega) (by omega) (by exact x0) ?_
      refine AW.iload dL_moves_361 rfl ?_
      refine AW.icmp_neF (tgt := 375) dL_moves_363 rfl (by exact q0) ?_
      refine AW.aload dL_moves_366 rfl ?_
      refine AW.iconst dL_moves_368 (by decide) ?_
      refine AW.aldIE dL_moves_369 (F1.T T).a9 (by omega) (by omega) (by exact x1) ?_
      refine AW.iload dL_moves_370 rfl ?_
      refine AW.icmp_eqF (tgt := 418) dL_moves_372 rfl (by exact q1) ?_
      exact AW.locs [(16, vi r1), (15, vi r0), (14, vi l1), (13, vi l0), (12, vi (zo Z a 0 1)), (11, vi (zo Z a 0 0)), (10, vi nm), (9, vi (a : Int)), (0, vr (la 1)), (1, vr (la 2)), (2, vr (la 3)), (3, vr (la 5)), (4, vr (la 6)), (5, vr (la 7)), (6, vi (rl : Int)), (7, vi 0), (8, vr (la 9))] ⟨rfl, rfl, rfl, rfl, rfl, rfl, rfl, rfl, rfl, rfl, rfl, rfl, rfl, rfl, rfl, rfl, rfl, trivial⟩ (put (l := []) (F1.T T) (FR.rf.f9 F1) (R.fl F1 (by decide) (by decide) (by decide)))
    · refine AW.aload_n dL_moves_333 rfl ?_
      refine AW.aload_n dL_moves_334 rfl ?_
      refine AW.aload_n dL_moves_335 rfl ?_
      refine AW.iload dL_moves_336 rfl ?_
      refine AW.iload dL_moves_338 rfl ?_
      refine AW.if_neF (tgt := 347) dL_moves_340 rfl (by omega) ?_
      refine AW.iconst dL_moves_343 (by decide) ?_
      refine AW.goto (tgt := 348) dL_moves_344 rfl ?_
      refine AW.iload dL_moves_348 rfl ?_
      refine AW.iload dL_moves_350 rfl ?_
      refine AW.aload dL_moves_352 rfl ?_
      refine AW.callS (as := [vq _, vq _, vq _, vi _, vi _, vi _, vi _, vq _]) dL_moves_354 rfl rfl rfl okL_tells lkL_107 rfl rfl rfl (leb (by omega)) (leb (by omega)) rfl (kL_tells T S K h1 ha (by omega) hr0 hr1 (fun g1 F1 x0 x1 => (AW.k0 ?_)))
      refine AW.aload dL_moves_357 rfl ?_
      refine AW.iconst dL_moves_359 (by decide) ?_
      refine AW.aldIE dL_moves_360 (F1.T T).a9 (by omega) (by omega) (by exact x0) ?_
      refine AW.iload dL_moves_361 rfl ?_
      refine AW.icmp_neT (tgt := 375) dL_moves_363 rfl (by exact q0) ?_
      exact AW.locs [(16, vi r1), (15, vi r0), (14, vi l1), (13, vi l0), (12, vi (zo Z a 0 1)), (11, vi (zo Z a 0 0)), (10, vi nm), (9, vi (a : Int)), (0, vr (la 1)), (1, vr (la 2)), (2, vr (la 3)), (3, vr (la 5)), (4, vr (la 6)), (5, vr (la 7)), (6, vi (rl : Int)), (7, vi 0), (8, vr (la 9))] ⟨rfl, rfl, rfl, rfl, rfl, rfl, rfl, rfl, rfl, rfl, rfl, rfl, rfl, rfl, rfl, rfl, rfl, trivial⟩ (put (l := []) (F1.T T) (FR.rf.f9 F1) (R.fl F1 (by decide) (by decide) (by decide)))
set_option maxHeartbeats 2000000 in
theorem mv_C1 {r0 r1 nm : Int} (T : LT g) (S : LSc g Z) (K : QS Z) (h1 : 1 ≤ a) (ha : (a : Int) ≤ Z 1 0) (hr : rl < 5) (R : LR g D rl rz) (eD : ∀ j, sj j = true → D j = Z j) (en : nm = if Z 7 a = 1 then 1 else 0)
    (k : ∀ G, FR rl g G → LR G (zmvE D (rz : Int) (a : Int) 1 0 r0 r1) rl rz → Q G (.inl none)) :
    AW mL_moves fL_moves loL_moves mc ms Q bc bs 418 g [(16, vi r1), (15, vi r0), (12, vi (zo Z a 1 1)), (11, vi (zo Z a 1 0)), (10, vi nm), (9, vi (a : Int)), (0, vr (la 1)), (1, vr (la 2)), (2, vr (la 3)), (3, vr (la 5)), (4, vr (la 6)), (5, vr (la 7)), (6, vi (rl : Int)), (7, vi 1), (8, vr (la 9))] [] := by
  have b1 := K.b1
  have b2 := K.b2
  have f0 := zo_r K h1 ha 1 0 (Or.inl rfl)
  have f1 := zo_r K h1 ha 1 1 (Or.inr rfl)
  have t0 := zo_r K h1 ha 0 0 (Or.inl rfl)
  have t1 := zo_r K h1 ha 0 1 (Or.inr rfl)
  rw [zE_n, zo_c eD, zo_c eD, zo_c eD, zo_c eD, show nu (1 : Int) = 0 from rfl] at k
  have last : ∀ {G : AH} {l : AL}, LT G → FR rl g G → LR G (zv (zv D (rz : Int) (zo Z a 1 0) (-1)) (rz : Int) (zo Z a 1 1) (-1)) rl rz → AW mL_moves fL_moves loL_moves mc ms Q bc bs 519 G [(20, vi (zo Z a 0 1)), (19, vi (zo Z a 0 0)), (16, vi r1), (15, vi r0), (9, vi (a : Int)), (0, vr (la 1)), (1, vr (la 2)), (2, vr (la 3)), (3, vr (la 5)), (4, vr (la 6)), (5, vr (la 7)), (6, vi (rl : Int)), (7, vi 1), (8, vr (la 9))] [] := by
    intro G l T F R
    refine mv_put0 T hr (by omega) rfl rfl rfl rfl ?_
    refine mv_put1 T.wv hr (by omega) rfl rfl rfl rfl ?_
    have T := (T.wv (rl := rl) (f := zo Z a 0 0) (x := r0)).wv (rl := rl) (f := zo Z a 0 1) (x := r1)
    refine AW.aload dL_moves_553 rfl ?_
    refine AW.iconst dL_moves_555 (by decide) ?_
    refine AW.iload dL_moves_556 rfl ?_
    refine AW.imulB dL_moves_558 (by omega) ?_
    refine AW.iload dL_moves_559 rfl ?_
    refine AW.if_eqF (tgt := 569) dL_moves_561 rfl (by omega) ?_
    refine AW.iload dL_moves_564 rfl ?_
    refine AW.goto (tgt := 573) dL_moves_566 rfl ?_
    refine AW.top (y := if (1 : Int) = 0 then (a : Int) - 1 else (a : Int)) rfl ?_
    refine AW.astI dL_moves_573 T.a6 (by omega) (by omega) ?_
    refine AW.vret dL_moves_574 rfl ?_
    refine k _ (((F.wv (by omega)).wv (by omega)).w6 (k := 0) (by decide)) ?_
    exact ((R.wv (by omega)).wv (by omega)).ver
  have mid : AW mL_moves fL_moves loL_moves mc ms Q bc bs 463 (wv (wv g rl (zo Z a 1 0) (-1)) rl (zo Z a 1 1) (-1)) [(16, vi r1), (15, vi r0), (10, vi nm), (9, vi (a : Int)), (0, vr (la 1)), (1, vr (la 2)), (2, vr (la 3)), (3, vr (la 5)), (4, vr (la 6)), (5, vr (la 7)), (6, vi (rl : Int)), (7, vi 1), (8, vr (la 9))] [] := by
    have F : FR rl g (wv (wv g rl (zo Z a 1 0) (-1)) rl (zo Z a 1 1) (-1)) := ((FR.rf (rl := rl)).wv (by omega)).wv (by omega)
    have R2 := (R.wv (f := zo Z a 1 0) (x := -1) (by omega)).wv (f := zo Z a 1 1) (x := -1) (by omega)
    have T := T.wv.wv (rl := rl) (f := zo Z a 1 1) (x := -1) |> fun (t : LT (wv (wv g rl (zo Z a 1 0) (-1)) rl (zo Z a 1 1) (-1))) => t
    have S := S.fr F
    by_cases hw : Z 7 a = 1
    · have en : nm = 1 := by rw [en, if_pos hw]
      subst en
      have e0 : ∀ j, zo Z a 0 j = -1 := fun j => by unfold zo; rw [if_pos hw]
      refine AW.iload dL_moves_463 rfl ?_
      refine AW.if_eqF (tgt := 472) dL_moves_465 rfl (by omega) ?_
      refine AW.iconst dL_moves_468 (by decide) ?_
      refine AW.goto (tgt := 489) dL_moves_469 rfl ?_
      refine AW.istore dL_moves_489 rfl ?_
      refine AW.iload dL_moves_491 rfl ?_
      refine AW.if_eqF (tgt := 500) dL_moves_493 rfl (by omega) ?_
      refine AW.iconst dL_moves_496 (by decide) ?_
      refine AW.goto (tgt := 517) dL_moves_497 rfl ?_
      refine AW.istore dL_moves_517 rfl ?_
      refine AW.locs [(20, vi (-1)), (19, vi (-1)), (16, vi r1), (15, vi r0), (9, vi (a : Int)), (0, vr (la 1)), (1, vr (la 2)), (2, vr (la 3)), (3, vr (la 5)), (4, vr (la 6)), (5, vr (la 7)), (6, vi (rl : Int)), (7, vi 1), (8, vr (la 9))] ⟨rfl, rfl, rfl, rfl, rfl, rfl, rfl, rfl, rfl, rfl, rfl, rfl, rfl, rfl, trivial⟩ ?_
      have q := last (l := []) T F R2
      rw [e0, e0] at q
      exact q
    · have en : nm = 0 := by rw [en, if_neg hw]
      subst en
      have e0 : ∀ j, zsd Z a 0 j = zo Z a 0 j := fun j => by unfold zo; rw [if_neg hw]
      refine AW.iload dL_moves_463 rfl ?_
      refine AW.if_eqT (tgt := 472) dL_moves_465 rfl (by omega) ?_
      refine AW.aload_n dL_moves_472 rfl ?_
      refine AW.iload dL_moves_473 rfl ?_
      refine AW.iload dL_moves_475 rfl ?_
      refine AW.if_neT (tgt := 484) dL_moves_477 rfl (by omega) ?_
      refine AW.iconst dL_moves_484 (by decide) ?_
      refine AW.iconst dL_moves_485 (by decide) ?_
      refine AW.callS (as := [vq _, vi _, vi _, vi _]) dL_moves_486 rfl rfl rfl okL_side lkL_86 rfl rfl rfl (leb (by omega)) (leb (by omega)) rfl (kL_side T S K h1 ha (by omega) (by omega) (AW.k1 ?_))
      refine AW.top (y := zo Z a 0 0) (e0 0) ?_
      refine AW.istore dL_moves_489 rfl ?_
      refine AW.iload dL_moves_491 rfl ?_
      refine AW.if_eqT (tgt := 500) dL_moves_493 rfl (by omega) ?_
      refine AW.aload_n dL_moves_500 rfl ?_
      refine AW.iload dL_moves_501 rfl ?_
      refine AW.iload dL_moves_503 rfl ?_
      refine AW.if_neT (tgt := 512) dL_moves_505 rfl (by omega) ?_
      refine AW.iconst dL_moves_512 (by decide) ?_
      refine AW.iconst dL_moves_513 (by decide) ?_
      refine AW.callS (as := [vq _, vi _, vi _, vi _]) dL_moves_514 rfl rfl rfl okL_side lkL_86 rfl rfl rfl (leb (by omega)) (leb (by omega)) rfl (kL_side T S K h1 ha (by omega) (by omega) (AW.k1 ?_))
      refine AW.top (y := zo Z a 0 1) (e0 1) ?_
      refine AW.istore dL_moves_517 rfl ?_
      exact AW.locs [(20, vi (zo Z a 0 1)), (19, vi (zo Z a 0 0)), (16, vi r1), (15, vi r0), (9, vi (a : Int)), (0, vr (la 1)), (1, vr (la 2)), (2, vr (la 3)), (3, vr (la 5)), (4, vr (la 6)), (5, vr (la 7)), (6, vi (rl : Int)), (7, vi 1), (8, vr (la 9))] ⟨rfl, rfl, rfl, rfl, rfl, rfl, rfl, rfl, rfl, rfl, rfl, rfl, rfl, rfl, trivial⟩ (last (l := []) T F R2)
  have snd : AW mL_moves fL_moves loL_moves mc ms Q bc bs 457 (wv g rl (zo Z a 1 0) (-1)) [(19, vi 0), (16, vi r1), (15, vi r0), (12, vi (zo Z a 1 1)), (10, vi nm), (9, vi (a : Int)), (0, vr (la 1)), (1, vr (la 2)), (2, vr (la 3)), (3, vr (la 5)), (4, vr (la 6)), (5, vr (la 7)), (6, vi (rl : Int)), (7, vi 1), (8, vr (la 9))] [] := by
    refine AW.iincB dL_moves_457 rfl rfl (by omega) ?_
    refine AW.goto (tgt := 421) dL_moves_460 rfl ?_
    refine AW.iload dL_moves_421 rfl ?_
    refine AW.iconst dL_moves_423 (by decide) ?_
    refine AW.icmp_geF (tgt := 463) dL_moves_424 rfl (by omega) ?_
    refine AW.iload dL_moves_427 rfl ?_
    refine AW.if_neT (tgt := 437) dL_moves_429 rfl (by omega) ?_
    refine AW.iload dL_moves_437 rfl ?_
    refine AW.istore dL_moves_439 rfl ?_
    refine mv_gone T.wv hr (by omega) rfl rfl rfl ?_
    refine AW.iincB dL_moves_457 rfl rfl (by omega) ?_
    refine AW.goto (tgt := 421) dL_moves_460 rfl ?_
    refine AW.iload dL_moves_421 rfl ?_
    refine AW.iconst dL_moves_423 (by decide) ?_
    refine AW.icmp_geT (tgt := 463) dL_moves_424 rfl (by omega) ?_
    exact AW.locs [(16, vi r1), (15, vi r0), (10, vi nm), (9, vi (a : Int)), (0, vr (la 1)), (1, vr (la 2)), (2, vr (la 3)), (3, vr (la 5)), (4, vr (la 6)), (5, vr (la 7)), (6, vi (rl : Int)), (7, vi 1), (8, vr (la 9))] ⟨rfl, rfl, rfl, rfl, rfl, rfl, rfl, rfl, rfl, rfl, rfl, rfl, rfl, trivial⟩ mid
  refine AW.iconst dL_moves_418 (by decide) ?_
  refine AW.istore dL_moves_419 rfl ?_
  refine AW.iload dL_moves_421 rfl ?_
  refine AW.iconst dL_moves_423 (by decide) ?_
  refine AW.icmp_geF (tgt := 463) dL_moves_424 rfl (by omega) ?_
  refine AW.iload dL_moves_427 rfl ?_
  refine AW.if_neF (tgt := 437) dL_moves_429 rfl (by omega) ?_
  refine AW.iload dL_moves_432 rfl ?_
  refine AW.goto (tgt := 439) dL_moves_434 rfl ?_
  refine AW.istore dL_moves_439 rfl ?_
  refine mv_gone T hr (by omega) rfl rfl rfl ?_
  exact AW.locs [(19, vi 0), (16, vi r1), (15, vi r0), (12, vi (zo Z a 1 1)), (10, vi nm), (9, vi (a : Int)), (0, vr (la 1)), (1, vr (la 2)), (2, vr (la 3)), (3, vr (la 5)), (4, vr (la 6)), (5, vr (la 7)), (6, vi (rl : Int)), (7, vi 1), (8, vr (la 9))] ⟨rfl, rfl, rfl, rfl, rfl, rfl, rfl, rfl, rfl, rfl, rfl, rfl, rfl, rfl, rfl, trivial⟩ snd
set_option maxHeartbeats 2000000 in
theorem mv_B1 {r0 r1 nm l0 l1 : Int} (T : LT g) (S : LSc g Z) (K : QS Z) (h1 : 1 ≤ a) (ha : (a : Int) ≤ Z 1 0) (hr : rl < 5) (R : LR g C rl rz) (eC : ∀ j, sj j = true → C j = Z j) (en : nm = if Z 7 a = 1 then 1 else 0)
    (hl0 : -1 ≤ l0 ∧ l0 ≤ 9999) (hl1 : -1 ≤ l1 ∧ l1 ≤ 9999) (hr0 : -1 ≤ r0 ∧ r0 ≤ 9999) (hr1 : -1 ≤ r1 ∧ r1 ≤ 9999)
    (k : ∀ G, FR rl g G → LR G (zmvE (zmvD C 0 (a : Int) (24 * (rz : Int) + (a : Int)) 1 l0 l1 r0 r1) (rz : Int) (a : Int) 1 0 r0 r1) rl rz → Q G (.inl none)) :
    AW mL_moves fL_moves loL_moves mc ms Q bc bs 333 g [(16, vi r1), (15, vi r0), (14, vi l1), (13, vi l0), (12, vi (zo Z a 1 1)), (11, vi (zo Z a 1 0)), (10, vi nm), (9, vi (a : Int)), (0, vr (la 1)), (1, vr (la 2)), (2, vr (la 3)), (3, vr (la 5)), (4, vr (la 6)), (5, vr (la 7)), (6, vi (rl : Int)), (7, vi 1), (8, vr (la 9))] [] := by
  have b1 := K.b1
  have go : ∀ {G : AH} {D : ZT}, LT G → FR rl g G → LR G D rl rz → (∀ j, sj j = true → D j = Z j) → zmvD C 0 (a : Int) (24 * (rz : Int) + (a : Int)) 1 l0 l1 r0 r1 = D → AW mL_moves fL_moves loL_moves mc ms Q bc bs 418 G [(16, vi r1), (15, vi r0), (12, vi (zo Z a 1 1)), (11, vi (zo Z a 1 0)), (10, vi nm), (9, vi (a : Int)), (0, vr (la 1)), (1, vr (la 2)), (2, vr (la 3)), (3, vr (la 5)), (4, vr (la 6)), (5, vr (la 7)), (6, vi (rl : Int)), (7, vi 1), (8, vr (la 9))] [] := fun T2 F2 R2 e2 eq => mv_C1 T2 (S.fr F2) K h1 ha hr R2 e2 en (fun G F3 R3 => k G (F2.tr F3) (by rw [eq]; exact R3))
  by_cases q : zG0 Z 0 0 (a : Int) r0 r1 = l0 ∧ zG1 Z 0 0 (a : Int) r0 = l1
  · have eq : zmvD C 0 (a : Int) (24 * (rz : Int) + (a : Int)) 1 l0 l1 r0 r1 = C := zD_no (by rw [zG0_y eC, zG1_y eC]; exact q)
    refine AW.aload_n dL_moves_333 rfl ?_
    refine AW.aload_n dL_moves_334 rfl ?_
    refine AW.aload_n dL_moves_335 rfl ?_
    refine AW.iload dL_moves_336 rfl ?_
    refine AW.iload dL_moves_338 rfl ?_
    refine AW.if_neT (tgt := 347) dL_moves_340 rfl (by omega) ?_
    refine AW.iconst dL_moves_347 (by decide) ?_
    refine AW.iload dL_moves_348 rfl ?_
    refine AW.iload dL_moves_350 rfl ?_
    refine AW.aload dL_moves_352 rfl ?_
    refine AW.callS (as := [vq _, vq _, vq _, vi _, vi _, vi _, vi _, vq _]) dL_moves_354 rfl rfl rfl okL_tells lkL_107 rfl rfl rfl (leb (by omega)) (leb (by omega)) rfl (kL_tells T S K h1 ha (by omega) hr0 hr1 (fun g1 F1 x0 x1 => (AW.k0 ?_)))
    refine AW.aload dL_moves_357 rfl ?_
    refine AW.iconst dL_moves_359 (by decide) ?_
    refine AW.aldIE dL_moves_360 (F1.T T).a9 (by omega) (by omega) (by exact x0) ?_
    refine AW.iload dL_moves_361 rfl ?_
    refine AW.icmp_neF (tgt := 375) dL_moves_363 rfl (by exact q.1) ?_
    refine AW.aload dL_moves_366 rfl ?_
    refine AW.iconst dL_moves_368 (by decide) ?_
    refine AW.aldIE dL_moves_369 (F1.T T).a9 (by omega) (by omega) (by exact x1) ?_
    refine AW.iload dL_moves_370 rfl ?_
    refine AW.icmp_eqT (tgt := 418) dL_moves_372 rfl (by exact q.2) ?_
    exact AW.locs [(16, vi r1), (15, vi r0), (12, vi (zo Z a 1 1)), (11, vi (zo Z a 1 0)), (10, vi nm), (9, vi (a : Int)), (0, vr (la 1)), (1, vr (la 2)), (2, vr (la 3)), (3, vr (la 5)), (4, vr (la 6)), (5, vr (la 7)), (6, vi (rl : Int)), (7, vi 1), (8, vr (la 9))] ⟨rfl, rfl, rfl, rfl, rfl, rfl, rfl, rfl, rfl, rfl, rfl, rfl, rfl, rfl, rfl, trivial⟩ (go (F1.T T) (FR.rf.f9 F1) (R.fl F1 (by decide) (by decide) (by decide)) eC eq)
  · have eq : zmvD C 0 (a : Int) (24 * (rz : Int) + (a : Int)) 1 l0 l1 r0 r1 = _ := zD_in (by rw [zG0_y eC, zG1_y eC]; exact q)
    have put : ∀ {G : AH} {l : AL}, LT G → FR rl g G → LR G C rl rz → AW mL_moves fL_moves loL_moves mc ms Q bc bs 375 G [(16, vi r1), (15, vi r0), (14, vi l1), (13, vi l0), (12, vi (zo Z a 1 1)), (11, vi (zo Z a 1 0)), (10, vi nm), (9, vi (a : Int)), (0, vr (la 1)), (1, vr (la 2)), (2, vr (la 3)), (3, vr (la 5)), (4, vr (la 6)), (5, vr (la 7)), (6, vi (rl : Int)), (7, vi 1), (8, vr (la 9))] [] := by
      intro G l T F R
      refine AW.aload dL_moves_375 rfl ?_
      refine AW.bipush dL_moves_377 bp_13 (by decide) ?_
      refine AW.iload dL_moves_379 rfl ?_
      refine AW.imulB dL_moves_381 (by omega) ?_
      refine AW.iload dL_moves_382 rfl ?_
      refine AW.iaddB dL_moves_384 (by omega) ?_
      refine AW.iload dL_moves_385 rfl ?_
      refine AW.if_eqF (tgt := 394) dL_moves_387 rfl (by omega) ?_
      refine AW.lconstI 1 dL_moves_390 (by decide) ?_
      refine AW.goto (tgt := 397) dL_moves_391 rfl ?_
      refine AW.ldc2I (3) dL_moves_397 lkL_111 (by decide) ?_
      refine AW.iload dL_moves_400 rfl ?_
      refine AW.i2l dL_moves_402 ?_
      refine AW.lconstI 1 dL_moves_403 (by decide) ?_
      refine AW.laddI dL_moves_404 ?_
      refine AW.ldc2I (10001) dL_moves_405 lkL_115 (by decide) ?_
      refine AW.iload dL_moves_408 rfl ?_
      refine AW.i2l dL_moves_410 ?_
      refine AW.lconstI 1 dL_moves_411 (by decide) ?_
      refine AW.laddI dL_moves_412 ?_
      refine AW.lmulI dL_moves_413 ?_
      refine AW.laddI dL_moves_414 ?_
      refine AW.lmulI dL_moves_415 ?_
      refine AW.pcs (pc2 := 416) rfl ?_
      refine AW.laddI dL_moves_416 ?_
      refine AW.astL dL_moves_417 T.a7 (by omega) (by omega) ?_
      refine AW.locs [(16, vi r1), (15, vi r0), (12, vi (zo Z a 1 1)), (11, vi (zo Z a 1 0)), (10, vi nm), (9, vi (a : Int)), (0, vr (la 1)), (1, vr (la 2)), (2, vr (la 3)), (3, vr (la 5)), (4, vr (la 6)), (5, vr (la 7)), (6, vi (rl : Int)), (7, vi 1), (8, vr (la 9))] ⟨rfl, rfl, rfl, rfl, rfl, rfl, rfl, rfl, rfl, rfl, rfl, rfl, rfl, rfl, rfl, trivial⟩ ?_
      rw [show (13 * (rl : Int) + (a : Int)).toNat = 13 * rl + a by omega]
      exact go T (F.w7 h1 (by omega)) (R.inn h1 (by omega) (s := if (1 : Int) = 0 then 2 else 1) (by decide) rfl) (sj_tr (sj_tr (sj_tr eC (sj_zs (by decide))) (sj_zs (by decide))) (sj_zs (by decide))) eq
    by_cases q0 : zG0 Z 0 0 (a : Int) r0 r1 = l0
    · have q1 : ¬ zG1 Z 0 0 (a : Int) r0 = l1 := fun z => q ⟨q0, z⟩
      refine AW.aload_n dL_moves_333 rfl ?_
      refine AW.aload_n dL_moves_334 rfl ?_
      refine AW.aload_n dL_moves_335 rfl ?_
      refine AW.iload dL_moves_336 rfl ?_
      refine AW.iload dL_moves_338 rfl ?_
      refine AW.if_neT (tgt := 347) dL_moves_340 rfl (by omega) ?_
      refine AW.iconst dL_moves_347 (by decide) ?_
      refine AW.iload dL_moves_348 rfl ?_
      refine AW.iload dL_moves_350 rfl ?_
      refine AW.aload dL_moves_352 rfl ?_
      refine AW.callS (as := [vq _, vq _, vq _, vi _, vi _, vi _, vi _, vq _]) dL_moves_354 rfl rfl rfl okL_tells lkL_107 rfl rfl rfl (leb (by omega)) (leb (by omega)) rfl (kL_tells T S K h1 ha (by omega) hr0 hr1 (fun g1 F1 x0 x1 => (AW.k0 ?_)))
      refine AW.aload dL_moves_357 rfl ?_
      refine AW.iconst dL_moves_359 (by decide) ?_
      refine AW.aldIE dL_moves_360 (F1.T T).a9 (by omega) (by omega) (by exact x0) ?_
      refine AW.iload dL_moves_361 rfl ?_
      refine AW.icmp_neF (tgt := 375) dL_moves_363 rfl (by exact q0) ?_
      refine AW.aload dL_moves_366 rfl ?_
      refine AW.iconst dL_moves_368 (by decide) ?_
      refine AW.aldIE dL_moves_369 (F1.T T).a9 (by omega) (by omega) (by exact x1) ?_
      refine AW.iload dL_moves_370 rfl ?_
      refine AW.icmp_eqF (tgt := 418) dL_moves_372 rfl (by exact q1) ?_
      exact AW.locs [(16, vi r1), (15, vi r0), (14, vi l1), (13, vi l0), (12, vi (zo Z a 1 1)), (11, vi (zo Z a 1 0)), (10, vi nm), (9, vi (a : Int)), (0, vr (la 1)), (1, vr (la 2)), (2, vr (la 3)), (3, vr (la 5)), (4, vr (la 6)), (5, vr (la 7)), (6, vi (rl : Int)), (7, vi 1), (8, vr (la 9))] ⟨rfl, rfl, rfl, rfl, rfl, rfl, rfl, rfl, rfl, rfl, rfl, rfl, rfl, rfl, rfl, rfl, rfl, trivial⟩ (put (l := []) (F1.T T) (FR.rf.f9 F1) (R.fl F1 (by decide) (by decide) (by decide)))
    · refine AW.aload_n dL_moves_333 rfl ?_
      refine AW.aload_n dL_moves_334 rfl ?_
      refine AW.aload_n dL_moves_335 rfl ?_
      refine AW.iload dL_moves_336 rfl ?_
      refine AW.iload dL_moves_338 rfl ?_
      refine AW.if_neT (tgt := 347) dL_moves_340 rfl (by omega) ?_
      refine AW.iconst dL_moves_347 (by decide) ?_
      refine AW.iload dL_moves_348 rfl ?_
      refine AW.iload dL_moves_350 rfl ?_
      refine AW.aload dL_moves_352 rfl ?_
      refine AW.callS (as := [vq _, vq _, vq _, vi _, vi _, vi _, vi _, vq _]) dL_moves_354 rfl rfl rfl okL_tells lkL_107 rfl rfl rfl (leb (by omega)) (leb (by omega)) rfl (kL_tells T S K h1 ha (by omega) hr0 hr1 (fun g1 F1 x0 x1 => (AW.k0 ?_)))
      refine AW.aload dL_moves_357 rfl ?_
      refine AW.iconst dL_moves_359 (by decide) ?_
      refine AW.aldIE dL_moves_360 (F1.T T).a9 (by omega) (by omega) (by exact x0) ?_
      refine AW.iload dL_moves_361 rfl ?_
      refine AW.icmp_neT (tgt := 375) dL_moves_363 rfl (by exact q0) ?_
      exact AW.locs [(16, vi r1), (15, vi r0), (14, vi l1), (13, vi l0), (12, vi (zo Z a 1 1)), (11, vi (zo Z a 1 0)), (10, vi nm), (9, vi (a : Int)), (0, vr (la 1)), (1, vr (la 2)), (2, vr (la 3)), (3, vr (la 5)), (4, vr (la 6)), (5, vr (la 7)), (6, vi (rl : Int)), (7, vi 1), (8, vr (la 9))] ⟨rfl, rfl, rfl, rfl, rfl, rfl, rfl, rfl, rfl, rfl, rfl, rfl, rfl, rfl, rfl, rfl, rfl, trivial⟩ (put (l := []) (F1.T T) (FR.rf.f9 F1) (R.fl F1 (by decide) (by decide) (by decide)))
end B3

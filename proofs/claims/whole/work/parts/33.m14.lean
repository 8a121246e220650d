/-! ===== the model: a row moves over one step ===== -/
section M14
variable {Q : AH → AO → Prop} {h : AH} {Z : ZT} {mc ms bc bs : Nat}
def z3 (Z : ZT) (t u w : Nat → Int) : ZT := zrow (zrow (zrow Z 45 w) 44 u) 43 t
theorem zs_z3 {t u w : Nat → Int} {j i : Nat} {v : Int} (hj : Nat.beq j 43 = false) (hj' : Nat.beq j 44 = false) (hj2 : Nat.beq j 45 = false) : zs (z3 Z t u w) j i v = z3 (zs Z j i v) t u w := by
  unfold z3; rw [zs_zrow_c hj, zs_zrow_c hj', zs_zrow_c hj2]
theorem zs_z3b {t u w : Nat → Int} {i : Nat} {v : Int} : zs (z3 Z t u w) 44 i v = z3 Z t (fun q => if q = i then v else u q) w := by
  unfold z3; rw [zs_zrow_c rfl, zs_zrow]
theorem zs_z3c {t u w : Nat → Int} {i : Nat} {v : Int} : zs (z3 Z t u w) 45 i v = z3 Z t u (fun q => if q = i then v else w q) := by
  unfold z3; rw [zs_zrow_c rfl, zs_zrow_c rfl, zs_zrow]
theorem z3_self : z3 Z (Z 43) (Z 44) (Z 45) = Z := by
  unfold z3; rw [zrow_self]
  rw [show zrow Z 44 (Z 44) = Z from zrow_self]; exact zrow_self
def nu (u : Int) : Int := if u = 0 then 1 else 0
def zv (Z : ZT) (r f x : Int) : ZT := if f = -1 then Z else zs Z 22 (48 * r + f).toNat x
theorem zon_zv {r f x p u j : Int} : zon (zv Z r f x) p u j = zon Z p u j := by unfold zv; split <;> rfl
theorem zv_z3 {t u w : Nat → Int} {r f x : Int} : zv (z3 Z t u w) r f x = z3 (zv Z r f x) t u w := by
  unfold zv; split
  · rfl
  · exact zs_z3 rfl rfl rfl
def zmvE (Z : ZT) (r a u s r0 r1 : Int) : ZT :=
  zs (zv (zv (zv (zv Z r (zon Z (24 * s + a) u 0) (-1)) r (zon Z (24 * s + a) u 1) (-1)) r (zon Z (24 * s + a) (nu u) 0) r0) r (zon Z (24 * s + a) (nu u) 1) r1) 21 r.toNat (if u = 0 then a - 1 else a)
theorem zon_rng (B : BB Z) {p u j : Int} : -1 ≤ zon Z p u j ∧ zon Z p u j < 48 := by
  unfold zon; split
  · omega
  · split
    · exact (B _).2
    · exact (B _).1
theorem X8_moves_e {r a u s r0 r1 : Int} (W : WfM h) (B : BB Z) (hr : 0 ≤ r ∧ r < 22) (hs : 0 ≤ s ∧ s < 4) (ha : 1 ≤ a ∧ a ≤ 23) (k : ∀ t u' w, Q (mput h (z3 (zmvE Z r a u s r0 r1) t u' w)) (.inl none)) {t u' w : Nat → Int} (h0 : w 0 = r0) (h1 : w 1 = r1) :
    AW mX8_moves fX8_moves loX8_moves mc ms Q bc bs 368 (mput h (z3 Z t u' w)) [(6, vi (24 * r + a)), (5, vi (24 * s + a)), (4, vi s), (0, vr mO), (1, vi r), (2, vi a), (3, vi u)] [] := by
  have cl : ∀ (Y : ZT) (j f : Int), (0 ≤ j ∧ j ≤ 1) → zon Y (24 * s + a) u j = f → (-1 ≤ f ∧ f < 48) → AW mX8_moves fX8_moves loX8_moves mc ms Q bc bs 371 (mput h (z3 (zv Y r f (-1)) t u' w)) [(7, vi (j + 1)), (6, vi (24 * r + a)), (5, vi (24 * s + a)), (4, vi s), (0, vr mO), (1, vi r), (2, vi a), (3, vi u)] [] →
      AW mX8_moves fX8_moves loX8_moves mc ms Q bc bs 371 (mput h (z3 Y t u' w)) [(7, vi j), (6, vi (24 * r + a)), (5, vi (24 * s + a)), (4, vi s), (0, vr mO), (1, vi r), (2, vi a), (3, vi u)] [] := by
    intro Y j f hj ef hf k'
    have ef' : zon (z3 Y t u' w) (24 * s + a) u j = f := ef
    refine AW.iload dX8_moves_371 rfl ?_
    refine AW.iconst dX8_moves_373 (by decide) ?_
    refine AW.icmp_ge (tgt := 413) dX8_moves_374 rfl (fun c_374 => ?_) (fun c_374 => ?_)
    · exact absurd c_374 (by omega)
    · refine AW.aload_n dX8_moves_377 rfl ?_
      refine AW.iload dX8_moves_378 rfl ?_
      refine AW.iload_n dX8_moves_380 rfl ?_
      refine AW.iload dX8_moves_381 rfl ?_
      refine AW.callV (as := [vi _, vi _, vi _]) dX8_moves_383 rfl rfl rfl okX8_onSide lkX8_272 W.1 rfl rfl rfl rfl rfl rfl rfl (kX8_onSide W (by omega) (by omega) (AW.k1 ?_))
      refine AW.top ef' ?_
      refine AW.istore dX8_moves_386 rfl ?_
      refine AW.iload dX8_moves_388 rfl ?_
      refine AW.iconst dX8_moves_390 (by decide) ?_
      refine AW.icmp_eq (tgt := 407) dX8_moves_391 rfl (fun c_391 => ?_) (fun c_391 => ?_)
      · refine AW.iincB dX8_moves_407 rfl rfl (by omega) ?_
        refine AW.goto (tgt := 371) dX8_moves_410 rfl ?_
        refine AW.locs [(7, vi (j + 1)), (6, vi (24 * r + a)), (5, vi (24 * s + a)), (4, vi s), (0, vr mO), (1, vi r), (2, vi a), (3, vi u)] ⟨rfl, rfl, rfl, rfl, rfl, rfl, rfl, rfl, trivial⟩ (AW.mZ ?_ k')
        first | (unfold zv; rw [if_pos c_391]) | (unfold zv; rw [if_neg c_391, zs_z3 rfl rfl rfl])
      · refine AW.aload_n dX8_moves_394 rfl ?_
        refine AW.mA 22 W dX8_moves_395 lkX8_68 rfl rfl ?_
        refine AW.bipush dX8_moves_398 bp_48 (by decide) ?_
        refine AW.iload_n dX8_moves_400 rfl ?_
        refine AW.imulB dX8_moves_401 (by omega) ?_
        refine AW.iload dX8_moves_402 rfl ?_
        refine AW.iaddB dX8_moves_404 (by omega) ?_
        refine AW.iconst dX8_moves_405 (by decide) ?_
        refine AW.mst (j := 22) W dX8_moves_406 rfl rfl (by simp only [mlen]; omega) ?_
        refine AW.iincB dX8_moves_407 rfl rfl (by omega) ?_
        refine AW.goto (tgt := 371) dX8_moves_410 rfl ?_
        refine AW.locs [(7, vi (j + 1)), (6, vi (24 * r + a)), (5, vi (24 * s + a)), (4, vi s), (0, vr mO), (1, vi r), (2, vi a), (3, vi u)] ⟨rfl, rfl, rfl, rfl, rfl, rfl, rfl, rfl, trivial⟩ (AW.mZ ?_ k')
        first | (unfold zv; rw [if_pos c_391]) | (unfold zv; rw [if_neg c_391, zs_z3 rfl rfl rfl])
  have st : ∀ (Y : ZT) (j f x : Int), (0 ≤ j ∧ j ≤ 1) → w j.toNat = x → zon Y (24 * s + a) (nu u) j = f → (-1 ≤ f ∧ f < 48) → AW mX8_moves fX8_moves loX8_moves mc ms Q bc bs 416 (mput h (z3 (zv Y r f x) t u' w)) [(7, vi (j + 1)), (6, vi (24 * r + a)), (5, vi (24 * s + a)), (4, vi s), (0, vr mO), (1, vi r), (2, vi a), (3, vi u)] [] →
      AW mX8_moves fX8_moves loX8_moves mc ms Q bc bs 416 (mput h (z3 Y t u' w)) [(7, vi j), (6, vi (24 * r + a)), (5, vi (24 * s + a)), (4, vi s), (0, vr mO), (1, vi r), (2, vi a), (3, vi u)] [] := by
    intro Y j f x hj ex ef hf k'
    have ef' : zon (z3 Y t u' w) (24 * s + a) (nu u) j = f := ef
    refine AW.iload dX8_moves_416 rfl ?_
    refine AW.iconst dX8_moves_418 (by decide) ?_
    refine AW.icmp_ge (tgt := 472) dX8_moves_419 rfl (fun c_419 => ?_) (fun c_419 => ?_)
    · exact absurd c_419 (by omega)
    · refine AW.aload_n dX8_moves_422 rfl ?_
      refine AW.iload dX8_moves_423 rfl ?_
      refine AW.iload_n dX8_moves_425 rfl ?_
      refine' AW.if_neJ 434 (tgt := 433) dX8_moves_426 rfl _ _ _
      rotate_left 2
      · intro c_426 k_426
        refine AW.iconst dX8_moves_433 (by decide) ?_
        exact k_426
      · intro c_426 k_426
        refine AW.iconst dX8_moves_429 (by decide) ?_
        refine AW.goto (tgt := 434) dX8_moves_430 rfl ?_
        exact k_426
      refine AW.top (y := nu u) (by unfold nu; (repeat' split) <;> first | rfl | omega) ?_
      refine AW.iload dX8_moves_434 rfl ?_
      refine AW.callV (as := [vi _, vi _, vi _]) dX8_moves_436 rfl rfl rfl okX8_onSide lkX8_272 W.1 rfl rfl rfl rfl rfl rfl rfl (kX8_onSide W (by omega) (by omega) (AW.k1 ?_))
      refine AW.top ef' ?_
      refine AW.istore dX8_moves_439 rfl ?_
      refine AW.iload dX8_moves_441 rfl ?_
      refine AW.iconst dX8_moves_443 (by decide) ?_
      refine AW.icmp_eq (tgt := 466) dX8_moves_444 rfl (fun c_444 => ?_) (fun c_444 => ?_)
      · refine AW.iincB dX8_moves_466 rfl rfl (by omega) ?_
        refine AW.goto (tgt := 416) dX8_moves_469 rfl ?_
        refine AW.locs [(7, vi (j + 1)), (6, vi (24 * r + a)), (5, vi (24 * s + a)), (4, vi s), (0, vr mO), (1, vi r), (2, vi a), (3, vi u)] ⟨rfl, rfl, rfl, rfl, rfl, rfl, rfl, rfl, trivial⟩ (AW.mZ ?_ k')
        first | (unfold zv; rw [if_pos c_444]) | (unfold zv; rw [if_neg c_444, zs_z3 rfl rfl rfl])
      · refine AW.aload_n dX8_moves_447 rfl ?_
        refine AW.mA 22 W dX8_moves_448 lkX8_68 rfl rfl ?_
        refine AW.bipush dX8_moves_451 bp_48 (by decide) ?_
        refine AW.iload_n dX8_moves_453 rfl ?_
        refine AW.imulB dX8_moves_454 (by omega) ?_
        refine AW.iload dX8_moves_455 rfl ?_
        refine AW.iaddB dX8_moves_457 (by omega) ?_
        refine AW.aload_n dX8_moves_458 rfl ?_
        refine AW.mA 45 W dX8_moves_459 lkX8_128 rfl rfl ?_
        refine AW.iload dX8_moves_462 rfl ?_
        refine AW.mldE (j := 45) W dX8_moves_464 rfl rfl (by simp only [mlen]; omega) (by apply zrow_ne rfl; apply zrow_ne rfl; exact zrow_e ex) ?_
        refine AW.mst (j := 22) W dX8_moves_465 rfl rfl (by simp only [mlen]; omega) ?_
        refine AW.iincB dX8_moves_466 rfl rfl (by omega) ?_
        refine AW.goto (tgt := 416) dX8_moves_469 rfl ?_
        refine AW.locs [(7, vi (j + 1)), (6, vi (24 * r + a)), (5, vi (24 * s + a)), (4, vi s), (0, vr mO), (1, vi r), (2, vi a), (3, vi u)] ⟨rfl, rfl, rfl, rfl, rfl, rfl, rfl, rfl, trivial⟩ (AW.mZ ?_ k')
        first | (unfold zv; rw [if_pos c_444]) | (unfold zv; rw [if_neg c_444, zs_z3 rfl rfl rfl])
  have k416 : AW mX8_moves fX8_moves loX8_moves mc ms Q bc bs 416 (mput h (z3 (zv (zv (zv (zv Z r (zon Z (24 * s + a) u 0) (-1)) r (zon Z (24 * s + a) u 1) (-1)) r (zon Z (24 * s + a) (nu u) 0) r0) r (zon Z (24 * s + a) (nu u) 1) r1) t u' w)) [(7, vi (1 + 1)), (6, vi (24 * r + a)), (5, vi (24 * s + a)), (4, vi s), (0, vr mO), (1, vi r), (2, vi a), (3, vi u)] [] := by
    refine AW.iload dX8_moves_416 rfl ?_
    refine AW.iconst dX8_moves_418 (by decide) ?_
    refine AW.icmp_ge (tgt := 472) dX8_moves_419 rfl (fun c_419 => ?_) (fun c_419 => ?_)
    · refine AW.aload_n dX8_moves_472 rfl ?_
      refine AW.mA 21 W dX8_moves_473 lkX8_65 rfl rfl ?_
      refine AW.iload_n dX8_moves_476 rfl ?_
      refine AW.iload_n dX8_moves_477 rfl ?_
      refine' AW.if_eqJ 488 (tgt := 485) dX8_moves_478 rfl _ _ _
      rotate_left 2
      · intro c_478 k_478
        refine AW.iload_n dX8_moves_485 rfl ?_
        refine AW.iconst dX8_moves_486 (by decide) ?_
        refine AW.isubB dX8_moves_487 (by omega) ?_
        exact k_478
      · intro c_478 k_478
        refine AW.iload_n dX8_moves_481 rfl ?_
        refine AW.goto (tgt := 488) dX8_moves_482 rfl ?_
        exact k_478
      refine AW.mst (j := 21) W dX8_moves_488 rfl rfl (by simp only [mlen]; omega) ?_
      refine AW.vret dX8_moves_489 rfl ?_
      refine finZ0 (k t u' w) ?_
      rw [zs_z3 rfl rfl rfl]
      unfold zmvE
      congr 2
    · exact absurd c_419 (by omega)
  have k371 : AW mX8_moves fX8_moves loX8_moves mc ms Q bc bs 371 (mput h (z3 (zv (zv Z r (zon Z (24 * s + a) u 0) (-1)) r (zon Z (24 * s + a) u 1) (-1)) t u' w)) [(7, vi (1 + 1)), (6, vi (24 * r + a)), (5, vi (24 * s + a)), (4, vi s), (0, vr mO), (1, vi r), (2, vi a), (3, vi u)] [] := by
    refine AW.iload dX8_moves_371 rfl ?_
    refine AW.iconst dX8_moves_373 (by decide) ?_
    refine AW.icmp_ge (tgt := 413) dX8_moves_374 rfl (fun c_374 => ?_) (fun c_374 => ?_)
    · refine AW.iconst dX8_moves_413 (by decide) ?_
      refine AW.istore dX8_moves_414 rfl ?_
      exact st _ 0 (zon Z (24 * s + a) (nu u) 0) r0 (by omega) h0 (zon_zv.trans zon_zv) (zon_rng B) (st _ 1 (zon Z (24 * s + a) (nu u) 1) r1 (by omega) h1 (zon_zv.trans (zon_zv.trans zon_zv)) (zon_rng B) k416)
    · exact absurd c_374 (by omega)
  refine AW.iconst dX8_moves_368 (by decide) ?_
  refine AW.istore dX8_moves_369 rfl ?_
  exact cl Z 0 (zon Z (24 * s + a) u 0) (by omega) rfl (zon_rng B) (cl _ 1 (zon Z (24 * s + a) u 1) (by omega) zon_zv (zon_rng B) k371)
def zmvD (Z : ZT) (s a q u l0 l1 r0 r1 : Int) : ZT :=
  if zG0 Z (nu u) s a r0 r1 = l0 ∧ zG1 Z (nu u) s a r0 = l1 then Z else zs (zs (zs Z 24 q.toNat (if u = 0 then 2 else 1)) 25 (2 * q).toNat l0) 25 (2 * q + 1).toNat l1
theorem BB_zs {j i : Nat} {v : Int} (hj : (j != 8 && j != 9) = true) (B : BB Z) : BB (zs Z j i v) := by
  have e : ∀ j', (j' == 8 || j' == 9) = true → zs Z j i v j' = Z j' := by
    intro j' hj'
    funext q
    unfold zs
    rw [if_neg]
    rintro ⟨rfl, -⟩
    revert hj hj'
    simp only [Bool.or_eq_true, beq_iff_eq, Bool.and_eq_true, bne_iff_ne]
    omega
  unfold BB; rw [e 8 rfl, e 9 rfl]; exact B
theorem zs_z3_3 {t l w : Nat → Int} {i i2 i3 : Nat} {v v2 v3 : Int} : zs (zs (zs (zrow (zrow (zrow Z 45 w) 44 l) 43 t) 24 i v) 25 i2 v2) 25 i3 v3 = z3 (zs (zs (zs Z 24 i v) 25 i2 v2) 25 i3 v3) t l w := by
  show zs (zs (zs (z3 Z t l w) 24 i v) 25 i2 v2) 25 i3 v3 = _
  rw [zs_z3 rfl rfl rfl, zs_z3 rfl rfl rfl, zs_z3 rfl rfl rfl]
theorem X8_moves_d {r a u s r0 r1 l0 l1 : Int} (W : WfM h) (B : BB Z) (st : stp Z (24 * s + a)) (hr : 0 ≤ r ∧ r < 22) (hs : 0 ≤ s ∧ s < 4) (ha : 1 ≤ a ∧ a ≤ 23) (k : ∀ t u' w, Q (mput h (z3 (zmvE (zmvD Z s a (24 * r + a) u l0 l1 r0 r1) r a u s r0 r1) t u' w)) (.inl none)) {t l w : Nat → Int} (h0 : w 0 = r0) (h1 : w 1 = r1) (h2 : l 0 = l0) (h3 : l 1 = l1) :
    AW mX8_moves fX8_moves loX8_moves mc ms Q bc bs 262 (mput h (z3 Z t l w)) [(6, vi (24 * r + a)), (5, vi (24 * s + a)), (4, vi s), (0, vr mO), (1, vi r), (2, vi a), (3, vi u)] [] := by
  refine AW.aload_n dX8_moves_262 rfl ?_
  refine AW.iload_n dX8_moves_263 rfl ?_
  refine' AW.if_neJ 272 (tgt := 271) dX8_moves_264 rfl _ _ _
  rotate_left 2
  · intro c_264 k_264
    refine AW.iconst dX8_moves_271 (by decide) ?_
    exact k_264
  · intro c_264 k_264
    refine AW.iconst dX8_moves_267 (by decide) ?_
    refine AW.goto (tgt := 272) dX8_moves_268 rfl ?_
    exact k_264
  refine AW.top (y := nu u) (by unfold nu; (repeat' split) <;> first | rfl | omega) ?_
  refine AW.iload dX8_moves_272 rfl ?_
  refine AW.iload_n dX8_moves_274 rfl ?_
  refine AW.aload_n dX8_moves_275 rfl ?_
  refine AW.mA 45 W dX8_moves_276 lkX8_128 rfl rfl ?_
  refine AW.iconst dX8_moves_279 (by decide) ?_
  refine AW.mldE (j := 45) W dX8_moves_280 rfl rfl (by simp only [mlen]; omega) (by apply zrow_ne rfl; apply zrow_ne rfl; exact zrow_e h0) ?_
  refine AW.aload_n dX8_moves_281 rfl ?_
  refine AW.mA 45 W dX8_moves_282 lkX8_128 rfl rfl ?_
  refine AW.iconst dX8_moves_285 (by decide) ?_
  refine AW.mldE (j := 45) W dX8_moves_286 rfl rfl (by simp only [mlen]; omega) (by apply zrow_ne rfl; apply zrow_ne rfl; exact zrow_e h1) ?_
  refine AW.callV (as := [vi _, vi _, vi _, vi _, vi _]) dX8_moves_287 rfl rfl rfl okX8_goes lkX8_276 W.1 rfl rfl rfl rfl rfl rfl rfl (kX8_goes (Z := zrow (zrow Z 45 w) 44 l) (t := t) W B hs ha st (fun t' e1 e2 => (AW.k0 ?_)))
  refine AW.aload_n dX8_moves_290 rfl ?_
  refine AW.mA 43 W dX8_moves_291 lkX8_122 rfl rfl ?_
  refine AW.iconst dX8_moves_294 (by decide) ?_
  refine AW.mldE (j := 43) W dX8_moves_295 rfl rfl (by simp only [mlen]; omega) (by exact zrow_e (show t' 0 = zG0 Z (nu u) s a r0 r1 from e1)) ?_
  refine AW.aload_n dX8_moves_296 rfl ?_
  refine AW.mA 44 W dX8_moves_297 lkX8_125 rfl rfl ?_
  refine AW.iconst dX8_moves_300 (by decide) ?_
  refine AW.mldE (j := 44) W dX8_moves_301 rfl rfl (by simp only [mlen]; omega) (by apply zrow_ne rfl; exact zrow_e h2) ?_
  refine AW.icmp_ne (tgt := 320) dX8_moves_302 rfl (fun c_302 => ?_) (fun c_302 => ?_)
  · refine AW.aload_n dX8_moves_320 rfl ?_
    refine AW.mA 24 W dX8_moves_321 lkX8_74 rfl rfl ?_
    refine AW.iload dX8_moves_324 rfl ?_
    refine AW.iload_n dX8_moves_326 rfl ?_
    refine' AW.if_eqJ 335 (tgt := 334) dX8_moves_327 rfl _ _ _
    rotate_left 2
    · intro c_327 k_327
      refine AW.iconst dX8_moves_334 (by decide) ?_
      exact k_327
    · intro c_327 k_327
      refine AW.iconst dX8_moves_330 (by decide) ?_
      refine AW.goto (tgt := 335) dX8_moves_331 rfl ?_
      exact k_327
    refine AW.top (y := if u = 0 then 2 else 1) (by (repeat' split) <;> first | rfl | omega) ?_
    refine AW.mst (j := 24) W dX8_moves_335 rfl rfl (by simp only [mlen]; omega) ?_
    refine AW.aload_n dX8_moves_336 rfl ?_
    refine AW.mA 25 W dX8_moves_337 lkX8_77 rfl rfl ?_
    refine AW.iconst dX8_moves_340 (by decide) ?_
    refine AW.iload dX8_moves_341 rfl ?_
    refine AW.imulB dX8_moves_343 (by omega) ?_
    refine AW.aload_n dX8_moves_344 rfl ?_
    refine AW.mA 44 W dX8_moves_345 lkX8_125 rfl rfl ?_
    refine AW.iconst dX8_moves_348 (by decide) ?_
    refine AW.mldE (j := 44) W dX8_moves_349 rfl rfl (by simp only [mlen]; omega) (by apply zs_ne rfl; apply zrow_ne rfl; exact zrow_e h2) ?_
    refine AW.mst (j := 25) W dX8_moves_350 rfl rfl (by simp only [mlen]; omega) ?_
    refine AW.aload_n dX8_moves_351 rfl ?_
    refine AW.mA 25 W dX8_moves_352 lkX8_77 rfl rfl ?_
    refine AW.iconst dX8_moves_355 (by decide) ?_
    refine AW.iload dX8_moves_356 rfl ?_
    refine AW.imulB dX8_moves_358 (by omega) ?_
    refine AW.iconst dX8_moves_359 (by decide) ?_
    refine AW.iaddB dX8_moves_360 (by omega) ?_
    refine AW.aload_n dX8_moves_361 rfl ?_
    refine AW.mA 44 W dX8_moves_362 lkX8_125 rfl rfl ?_
    refine AW.iconst dX8_moves_365 (by decide) ?_
    refine AW.mldE (j := 44) W dX8_moves_366 rfl rfl (by simp only [mlen]; omega) (by apply zs_ne rfl; apply zs_ne rfl; apply zrow_ne rfl; exact zrow_e h3) ?_
    refine AW.mst (j := 25) W dX8_moves_367 rfl rfl (by simp only [mlen]; omega) ?_
    unfold zmvD at k
    first | (have e : ¬ (zG0 Z (nu u) s a r0 r1 = l0 ∧ zG1 Z (nu u) s a r0 = l1) := fun z => c_302 z.1; rw [if_neg e] at k; exact AW.mZ zs_z3_3 (X8_moves_e W (BB_zs rfl (BB_zs rfl (BB_zs rfl B))) hr hs ha k h0 h1)) | (have e : ¬ (zG0 Z (nu u) s a r0 r1 = l0 ∧ zG1 Z (nu u) s a r0 = l1) := fun z => c_317 z.2; rw [if_neg e] at k; exact AW.mZ zs_z3_3 (X8_moves_e W (BB_zs rfl (BB_zs rfl (BB_zs rfl B))) hr hs ha k h0 h1)) | (have e : (zG0 Z (nu u) s a r0 r1 = l0 ∧ zG1 Z (nu u) s a r0 = l1) := ⟨c_302, c_317⟩; rw [if_pos e] at k; exact X8_moves_e W B hr hs ha k h0 h1)
  · refine AW.aload_n dX8_moves_305 rfl ?_
    refine AW.mA 43 W dX8_moves_306 lkX8_122 rfl rfl ?_
    refine AW.iconst dX8_moves_309 (by decide) ?_
    refine AW.mldE (j := 43) W dX8_moves_310 rfl rfl (by simp only [mlen]; omega) (by exact zrow_e (show t' 1 = zG1 Z (nu u) s a r0 from e2)) ?_
    refine AW.aload_n dX8_moves_311 rfl ?_
    refine AW.mA 44 W dX8_moves_312 lkX8_125 rfl rfl ?_
    refine AW.iconst dX8_moves_315 (by decide) ?_
    refine AW.mldE (j := 44) W dX8_moves_316 rfl rfl (by simp only [mlen]; omega) (by apply zrow_ne rfl; exact zrow_e h3) ?_
    refine AW.icmp_eq (tgt := 368) dX8_moves_317 rfl (fun c_317 => ?_) (fun c_317 => ?_)
    · unfold zmvD at k
      first | (have e : ¬ (zG0 Z (nu u) s a r0 r1 = l0 ∧ zG1 Z (nu u) s a r0 = l1) := fun z => c_302 z.1; rw [if_neg e] at k; exact AW.mZ zs_z3_3 (X8_moves_e W (BB_zs rfl (BB_zs rfl (BB_zs rfl B))) hr hs ha k h0 h1)) | (have e : ¬ (zG0 Z (nu u) s a r0 r1 = l0 ∧ zG1 Z (nu u) s a r0 = l1) := fun z => c_317 z.2; rw [if_neg e] at k; exact AW.mZ zs_z3_3 (X8_moves_e W (BB_zs rfl (BB_zs rfl (BB_zs rfl B))) hr hs ha k h0 h1)) | (have e : (zG0 Z (nu u) s a r0 r1 = l0 ∧ zG1 Z (nu u) s a r0 = l1) := ⟨c_302, c_317⟩; rw [if_pos e] at k; exact X8_moves_e W B hr hs ha k h0 h1)
    · refine AW.aload_n dX8_moves_320 rfl ?_
      refine AW.mA 24 W dX8_moves_321 lkX8_74 rfl rfl ?_
      refine AW.iload dX8_moves_324 rfl ?_
      refine AW.iload_n dX8_moves_326 rfl ?_
      refine' AW.if_eqJ 335 (tgt := 334) dX8_moves_327 rfl _ _ _
      rotate_left 2
      · intro c_327 k_327
        refine AW.iconst dX8_moves_334 (by decide) ?_
        exact k_327
      · intro c_327 k_327
        refine AW.iconst dX8_moves_330 (by decide) ?_
        refine AW.goto (tgt := 335) dX8_moves_331 rfl ?_
        exact k_327
      refine AW.top (y := if u = 0 then 2 else 1) (by (repeat' split) <;> first | rfl | omega) ?_
      refine AW.mst (j := 24) W dX8_moves_335 rfl rfl (by simp only [mlen]; omega) ?_
      refine AW.aload_n dX8_moves_336 rfl ?_
      refine AW.mA 25 W dX8_moves_337 lkX8_77 rfl rfl ?_
      refine AW.iconst dX8_moves_340 (by decide) ?_
      refine AW.iload dX8_moves_341 rfl ?_
      refine AW.imulB dX8_moves_343 (by omega) ?_
      refine AW.aload_n dX8_moves_344 rfl ?_
      refine AW.mA 44 W dX8_moves_345 lkX8_125 rfl rfl ?_
      refine AW.iconst dX8_moves_348 (by decide) ?_
      refine AW.mldE (j := 44) W dX8_moves_349 rfl rfl (by simp only [mlen]; omega) (by apply zs_ne rfl; apply zrow_ne rfl; exact zrow_e h2) ?_
      refine AW.mst (j := 25) W dX8_moves_350 rfl rfl (by simp only [mlen]; omega) ?_
      refine AW.aload_n dX8_moves_351 rfl ?_
      refine AW.mA 25 W dX8_moves_352 lkX8_77 rfl rfl ?_
      refine AW.iconst dX8_moves_355 (by decide) ?_
      refine AW.iload dX8_moves_356 rfl ?_
      refine AW.imulB dX8_moves_358 (by omega) ?_
      refine AW.iconst dX8_moves_359 (by decide) ?_
      refine AW.iaddB dX8_moves_360 (by omega) ?_
      refine AW.aload_n dX8_moves_361 rfl ?_
      refine AW.mA 44 W dX8_moves_362 lkX8_125 rfl rfl ?_
      refine AW.iconst dX8_moves_365 (by decide) ?_
      refine AW.mldE (j := 44) W dX8_moves_366 rfl rfl (by simp only [mlen]; omega) (by apply zs_ne rfl; apply zs_ne rfl; apply zrow_ne rfl; exact zrow_e h3) ?_
      refine AW.mst (j := 25) W dX8_moves_367 rfl rfl (by simp only [mlen]; omega) ?_
      unfold zmvD at k
      first | (have e : ¬ (zG0 Z (nu u) s a r0 r1 = l0 ∧ zG1 Z (nu u) s a r0 = l1) := fun z => c_302 z.1; rw [if_neg e] at k; exact AW.mZ zs_z3_3 (X8_moves_e W (BB_zs rfl (BB_zs rfl (BB_zs rfl B))) hr hs ha k h0 h1)) | (have e : ¬ (zG0 Z (nu u) s a r0 r1 = l0 ∧ zG1 Z (nu u) s a r0 = l1) := fun z => c_317 z.2; rw [if_neg e] at k; exact AW.mZ zs_z3_3 (X8_moves_e W (BB_zs rfl (BB_zs rfl (BB_zs rfl B))) hr hs ha k h0 h1)) | (have e : (zG0 Z (nu u) s a r0 r1 = l0 ∧ zG1 Z (nu u) s a r0 = l1) := ⟨c_302, c_317⟩; rw [if_pos e] at k; exact X8_moves_e W B hr hs ha k h0 h1)
abbrev zbk (Z : ZT) (s a q u l0 l1 : Int) : Prop := zG0 Z (nu u) s a (Z 25 (2 * q).toNat) (Z 25 (2 * q + 1).toNat) = l0 ∧ zG1 Z (nu u) s a (Z 25 (2 * q).toNat) = l1
def zmvC (Z : ZT) (r s a q u l0 l1 g0 g1 : Int) : ZT × Int × Int :=
  if Z 24 q.toNat = (if u = 0 then 1 else 2) then
    (if zbk Z s a q u l0 l1 then (zs Z 24 q.toNat 0, Z 25 (2 * q).toNat, Z 25 (2 * q + 1).toNat) else (zs (zs Z 24 q.toNat 0) 23 r.toNat (wr (Z 23 r.toNat + 1)), g0, g1))
  else (Z, g0, g1)
theorem zs_z3_4 {t l w : Nat → Int} {v v2 : Int} : zs (zs (zrow (zrow (zrow Z 45 w) 44 l) 43 t) 45 (Int.toNat 0) v) 45 (Int.toNat 1) v2 = z3 Z t l (fun q => if q = 1 then v2 else if q = 0 then v else w q) := by
  show zs (zs (z3 Z t l w) 45 0 v) 45 1 v2 = _
  rw [zs_z3c, zs_z3c]
theorem zs_z3_5 {t l w : Nat → Int} {i : Nat} {v : Int} : zs (zrow (zrow (zrow Z 45 w) 44 l) 43 t) 23 i v = z3 (zs Z 23 i v) t l w := by
  show zs (z3 Z t l w) 23 i v = _
  rw [zs_z3 rfl rfl rfl]
theorem X8_moves_c {r a u s l0 l1 g0 g1 : Int} (W : WfM h) (B : BB Z) (st : stp Z (24 * s + a)) (hr : 0 ≤ r ∧ r < 22) (hs : 0 ≤ s ∧ s < 4) (ha : 1 ≤ a ∧ a ≤ 23) (k : ∀ Z' r0 r1, zmvC Z r s a (24 * r + a) u l0 l1 g0 g1 = (Z', r0, r1) → ∀ t u' w, Q (mput h (z3 (zmvE (zmvD Z' s a (24 * r + a) u l0 l1 r0 r1) r a u s r0 r1) t u' w)) (.inl none)) {t l w : Nat → Int} (h0 : w 0 = g0) (h1 : w 1 = g1) (h2 : l 0 = l0) (h3 : l 1 = l1) :
    AW mX8_moves fX8_moves loX8_moves mc ms Q bc bs 124 (mput h (z3 Z t l w)) [(6, vi (24 * r + a)), (5, vi (24 * s + a)), (4, vi s), (0, vr mO), (1, vi r), (2, vi a), (3, vi u)] [] := by
  have B1 : BB (zs Z 24 (24 * r + a).toNat 0) := BB_zs rfl B
  have st1 : stp (zs Z 24 (24 * r + a).toNat 0) (24 * s + a) := st
  refine AW.aload_n dX8_moves_124 rfl ?_
  refine AW.mA 24 W dX8_moves_125 lkX8_74 rfl rfl ?_
  refine AW.iload dX8_moves_128 rfl ?_
  refine AW.mldE (j := 24) W dX8_moves_130 rfl rfl (by simp only [mlen]; omega) (by (repeat first | apply zs_ne rfl | apply zs_eq (by omega) | apply zs_miss (by omega) | apply zrow_ne rfl); exact rfl) ?_
  refine AW.iload_n dX8_moves_131 rfl ?_
  refine' AW.if_eqJ 140 (tgt := 139) dX8_moves_132 rfl _ _ _
  rotate_left 2
  · intro c_132 k_132
    refine AW.iconst dX8_moves_139 (by decide) ?_
    exact k_132
  · intro c_132 k_132
    refine AW.iconst dX8_moves_135 (by decide) ?_
    refine AW.goto (tgt := 140) dX8_moves_136 rfl ?_
    exact k_132
  refine AW.top (y := if u = 0 then 1 else 2) (by (repeat' split) <;> first | rfl | omega) ?_
  refine AW.icmp_ne (tgt := 262) dX8_moves_140 rfl (fun c_140 => ?_) (fun c_140 => ?_)
  · exact X8_moves_d W B st hr hs ha (k _ _ _ (by unfold zmvC; rw [if_neg c_140])) h0 h1 h2 h3
  · refine AW.aload_n dX8_moves_143 rfl ?_
    refine AW.mA 24 W dX8_moves_144 lkX8_74 rfl rfl ?_
    refine AW.iload dX8_moves_147 rfl ?_
    refine AW.iconst dX8_moves_149 (by decide) ?_
    refine AW.mst (j := 24) W dX8_moves_150 rfl rfl (by simp only [mlen]; omega) ?_
    refine AW.mZ (Z' := zrow (zrow (zrow (zs Z 24 (24 * r + a).toNat 0) 45 w) 44 l) 43 t) (zs_z3 rfl rfl rfl) ?_
    refine AW.aload_n dX8_moves_151 rfl ?_
    refine AW.iload_n dX8_moves_152 rfl ?_
    refine' AW.if_neJ 161 (tgt := 160) dX8_moves_153 rfl _ _ _
    rotate_left 2
    · intro c_153 k_153
      refine AW.iconst dX8_moves_160 (by decide) ?_
      exact k_153
    · intro c_153 k_153
      refine AW.iconst dX8_moves_156 (by decide) ?_
      refine AW.goto (tgt := 161) dX8_moves_157 rfl ?_
      exact k_153
    refine AW.top (y := nu u) (by unfold nu; (repeat' split) <;> first | rfl | omega) ?_
    refine AW.iload dX8_moves_161 rfl ?_
    refine AW.iload_n dX8_moves_163 rfl ?_
    refine AW.aload_n dX8_moves_164 rfl ?_
    refine AW.mA 25 W dX8_moves_165 lkX8_77 rfl rfl ?_
    refine AW.iconst dX8_moves_168 (by decide) ?_
    refine AW.iload dX8_moves_169 rfl ?_
    refine AW.imulB dX8_moves_171 (by omega) ?_
    refine AW.mldE (j := 25) W dX8_moves_172 rfl rfl (by simp only [mlen]; omega) (by (repeat first | apply zs_ne rfl | apply zs_eq (by omega) | apply zs_miss (by omega) | apply zrow_ne rfl); exact rfl) ?_
    refine AW.aload_n dX8_moves_173 rfl ?_
    refine AW.mA 25 W dX8_moves_174 lkX8_77 rfl rfl ?_
    refine AW.iconst dX8_moves_177 (by decide) ?_
    refine AW.iload dX8_moves_178 rfl ?_
    refine AW.imulB dX8_moves_180 (by omega) ?_
    refine AW.iconst dX8_moves_181 (by decide) ?_
    refine AW.iaddB dX8_moves_182 (by omega) ?_
    refine AW.mldE (j := 25) W dX8_moves_183 rfl rfl (by simp only [mlen]; omega) (by (repeat first | apply zs_ne rfl | apply zs_eq (by omega) | apply zs_miss (by omega) | apply zrow_ne rfl); exact rfl) ?_
    refine AW.callV (as := [vi _, vi _, vi _, vi _, vi _]) dX8_moves_184 rfl rfl rfl okX8_goes lkX8_276 W.1 rfl rfl rfl rfl rfl rfl rfl (kX8_goes (Z := zrow (zrow (zs Z 24 (24 * r + a).toNat 0) 45 w) 44 l) (t := t) W B1 hs ha st1 (fun t' e1 e2 => (AW.k0 ?_)))
    refine AW.aload_n dX8_moves_187 rfl ?_
    refine AW.mA 43 W dX8_moves_188 lkX8_122 rfl rfl ?_
    refine AW.iconst dX8_moves_191 (by decide) ?_
    refine AW.mldE (j := 43) W dX8_moves_192 rfl rfl (by simp only [mlen]; omega) (by exact zrow_e (show t' 0 = zG0 Z (nu u) s a (Z 25 (2 * (24 * r + a)).toNat) (Z 25 (2 * (24 * r + a) + 1).toNat) from e1)) ?_
    refine AW.aload_n dX8_moves_193 rfl ?_
    refine AW.mA 44 W dX8_moves_194 lkX8_125 rfl rfl ?_
    refine AW.pcs (pc2 := 197) rfl ?_
    refine AW.iconst dX8_moves_197 (by decide) ?_
    refine AW.mldE (j := 44) W dX8_moves_198 rfl rfl (by simp only [mlen]; omega) (by apply zrow_ne rfl; exact zrow_e h2) ?_
    refine AW.icmp_ne (tgt := 252) dX8_moves_199 rfl (fun c_199 => ?_) (fun c_199 => ?_)
    · refine AW.aload_n dX8_moves_252 rfl ?_
      refine AW.mA 23 W dX8_moves_253 lkX8_71 rfl rfl ?_
      refine AW.iload_n dX8_moves_256 rfl ?_
      refine AW.dup2 dX8_moves_257 rfl rfl ?_
      refine AW.mldE (j := 23) W dX8_moves_258 rfl rfl (by simp only [mlen]; omega) (by (repeat first | apply zs_ne rfl | apply zs_eq (by omega) | apply zs_miss (by omega) | apply zrow_ne rfl); exact rfl) ?_
      refine AW.iconst dX8_moves_259 (by decide) ?_
      refine AW.iadd dX8_moves_260 ?_
      refine AW.mst (j := 23) W dX8_moves_261 rfl rfl (by simp only [mlen]; omega) ?_
      unfold zmvC at k
      rw [if_pos c_140] at k
      first | (have e : ¬ zbk Z s a (24 * r + a) u l0 l1 := fun z => c_199 z.1; rw [if_neg e] at k; exact AW.mZ zs_z3_5 (X8_moves_d W (BB_zs rfl B1) (show stp (zs (zs Z 24 (24 * r + a).toNat 0) 23 r.toNat (wr (Z 23 r.toNat + 1))) (24 * s + a) from st) hr hs ha (k _ _ _ rfl) h0 h1 h2 h3)) | (have e : ¬ zbk Z s a (24 * r + a) u l0 l1 := fun z => c_214 z.2; rw [if_neg e] at k; exact AW.mZ zs_z3_5 (X8_moves_d W (BB_zs rfl B1) (show stp (zs (zs Z 24 (24 * r + a).toNat 0) 23 r.toNat (wr (Z 23 r.toNat + 1))) (24 * s + a) from st) hr hs ha (k _ _ _ rfl) h0 h1 h2 h3)) | (have e : zbk Z s a (24 * r + a) u l0 l1 := ⟨c_199, c_214⟩; rw [if_pos e] at k; exact AW.mZ zs_z3_4 (X8_moves_d W B1 st1 hr hs ha (k _ _ _ rfl) rfl rfl h2 h3))
    · refine AW.aload_n dX8_moves_202 rfl ?_
      refine AW.mA 43 W dX8_moves_203 lkX8_122 rfl rfl ?_
      refine AW.iconst dX8_moves_206 (by decide) ?_
      refine AW.mldE (j := 43) W dX8_moves_207 rfl rfl (by simp only [mlen]; omega) (by exact zrow_e (show t' 1 = zG1 Z (nu u) s a (Z 25 (2 * (24 * r + a)).toNat) from e2)) ?_
      refine AW.aload_n dX8_moves_208 rfl ?_
      refine AW.mA 44 W dX8_moves_209 lkX8_125 rfl rfl ?_
      refine AW.iconst dX8_moves_212 (by decide) ?_
      refine AW.mldE (j := 44) W dX8_moves_213 rfl rfl (by simp only [mlen]; omega) (by apply zrow_ne rfl; exact zrow_e h3) ?_
      refine AW.icmp_ne (tgt := 252) dX8_moves_214 rfl (fun c_214 => ?_) (fun c_214 => ?_)
      · refine AW.aload_n dX8_moves_252 rfl ?_
        refine AW.mA 23 W dX8_moves_253 lkX8_71 rfl rfl ?_
        refine AW.iload_n dX8_moves_256 rfl ?_
        refine AW.dup2 dX8_moves_257 rfl rfl ?_
        refine AW.mldE (j := 23) W dX8_moves_258 rfl rfl (by simp only [mlen]; omega) (by (repeat first | apply zs_ne rfl | apply zs_eq (by omega) | apply zs_miss (by omega) | apply zrow_ne rfl); exact rfl) ?_
        refine AW.iconst dX8_moves_259 (by decide) ?_
        refine AW.iadd dX8_moves_260 ?_
        refine AW.mst (j := 23) W dX8_moves_261 rfl rfl (by simp only [mlen]; omega) ?_
        unfold zmvC at k
        rw [if_pos c_140] at k
        first | (have e : ¬ zbk Z s a (24 * r + a) u l0 l1 := fun z => c_199 z.1; rw [if_neg e] at k; exact AW.mZ zs_z3_5 (X8_moves_d W (BB_zs rfl B1) (show stp (zs (zs Z 24 (24 * r + a).toNat 0) 23 r.toNat (wr (Z 23 r.toNat + 1))) (24 * s + a) from st) hr hs ha (k _ _ _ rfl) h0 h1 h2 h3)) | (have e : ¬ zbk Z s a (24 * r + a) u l0 l1 := fun z => c_214 z.2; rw [if_neg e] at k; exact AW.mZ zs_z3_5 (X8_moves_d W (BB_zs rfl B1) (show stp (zs (zs Z 24 (24 * r + a).toNat 0) 23 r.toNat (wr (Z 23 r.toNat + 1))) (24 * s + a) from st) hr hs ha (k _ _ _ rfl) h0 h1 h2 h3)) | (have e : zbk Z s a (24 * r + a) u l0 l1 := ⟨c_199, c_214⟩; rw [if_pos e] at k; exact AW.mZ zs_z3_4 (X8_moves_d W B1 st1 hr hs ha (k _ _ _ rfl) rfl rfl h2 h3))
      · refine AW.aload_n dX8_moves_217 rfl ?_
        refine AW.mA 45 W dX8_moves_218 lkX8_128 rfl rfl ?_
        refine AW.iconst dX8_moves_221 (by decide) ?_
        refine AW.aload_n dX8_moves_222 rfl ?_
        refine AW.mA 25 W dX8_moves_223 lkX8_77 rfl rfl ?_
        refine AW.iconst dX8_moves_226 (by decide) ?_
        refine AW.iload dX8_moves_227 rfl ?_
        refine AW.imulB dX8_moves_229 (by omega) ?_
        refine AW.mldE (j := 25) W dX8_moves_230 rfl rfl (by simp only [mlen]; omega) (by (repeat first | apply zs_ne rfl | apply zs_eq (by omega) | apply zs_miss (by omega) | apply zrow_ne rfl); exact rfl) ?_
        refine AW.mst (j := 45) W dX8_moves_231 rfl rfl (by simp only [mlen]; omega) ?_
        refine AW.aload_n dX8_moves_232 rfl ?_
        refine AW.mA 45 W dX8_moves_233 lkX8_128 rfl rfl ?_
        refine AW.iconst dX8_moves_236 (by decide) ?_
        refine AW.aload_n dX8_moves_237 rfl ?_
        refine AW.mA 25 W dX8_moves_238 lkX8_77 rfl rfl ?_
        refine AW.iconst dX8_moves_241 (by decide) ?_
        refine AW.iload dX8_moves_242 rfl ?_
        refine AW.imulB dX8_moves_244 (by omega) ?_
        refine AW.iconst dX8_moves_245 (by decide) ?_
        refine AW.iaddB dX8_moves_246 (by omega) ?_
        refine AW.mldE (j := 25) W dX8_moves_247 rfl rfl (by simp only [mlen]; omega) (by (repeat first | apply zs_ne rfl | apply zs_eq (by omega) | apply zs_miss (by omega) | apply zrow_ne rfl); exact rfl) ?_
        refine AW.mst (j := 45) W dX8_moves_248 rfl rfl (by simp only [mlen]; omega) ?_
        refine AW.goto (tgt := 262) dX8_moves_249 rfl ?_
        unfold zmvC at k
        rw [if_pos c_140] at k
        first | (have e : ¬ zbk Z s a (24 * r + a) u l0 l1 := fun z => c_199 z.1; rw [if_neg e] at k; exact AW.mZ zs_z3_5 (X8_moves_d W (BB_zs rfl B1) (show stp (zs (zs Z 24 (24 * r + a).toNat 0) 23 r.toNat (wr (Z 23 r.toNat + 1))) (24 * s + a) from st) hr hs ha (k _ _ _ rfl) h0 h1 h2 h3)) | (have e : ¬ zbk Z s a (24 * r + a) u l0 l1 := fun z => c_214 z.2; rw [if_neg e] at k; exact AW.mZ zs_z3_5 (X8_moves_d W (BB_zs rfl B1) (show stp (zs (zs Z 24 (24 * r + a).toNat 0) 23 r.toNat (wr (Z 23 r.toNat + 1))) (24 * s + a) from st) hr hs ha (k _ _ _ rfl) h0 h1 h2 h3)) | (have e : zbk Z s a (24 * r + a) u l0 l1 := ⟨c_199, c_214⟩; rw [if_pos e] at k; exact AW.mZ zs_z3_4 (X8_moves_d W B1 st1 hr hs ha (k _ _ _ rfl) rfl rfl h2 h3))
def zL (Z : ZT) (r u p j : Int) : Int := if zon Z p u j = -1 then -1 else Z 22 (48 * r + zon Z p u j).toNat
def zmv (Z : ZT) (r s a u : Int) : ZT :=
  let l0 := zL Z r u (24 * s + a) 0
  let l1 := zL Z r u (24 * s + a) 1
  let C := zmvC Z r s a (24 * r + a) u l0 l1 (zG0 Z u s a l0 l1) (zG1 Z u s a l0)
  zmvE (zmvD C.1 s a (24 * r + a) u l0 l1 C.2.1 C.2.2) r a u s C.2.1 C.2.2
theorem kX8_moves {r s a u : Int} {t l w : Nat → Int} (W : WfM h) (B : BB Z) (es : Z 20 r.toNat = s) (st : stp Z (24 * s + a)) (hr : 0 ≤ r ∧ r < 22) (hs : 0 ≤ s ∧ s < 4) (ha : 1 ≤ a ∧ a ≤ 23) (k : ∀ t l w, Q (mput h (z3 (zmv Z r s a u) t l w)) (.inl none)) :
    AC mX8_moves fX8_moves loX8_moves 0 0 (mput h (z3 Z t l w)) [vr mO, vi r, vi a, vi u] Q := by
  refine AC.mk (by decide) (Nat.le_of_ble_eq_true rfl) ?_
  have k80 : ∀ l, l 0 = zL Z r u (24 * s + a) 0 → l 1 = zL Z r u (24 * s + a) 1 → AW mX8_moves fX8_moves loX8_moves 0 0 Q 0 0 28 (mput h (z3 Z t l w)) [(7, vi (1 + 1)), (6, vi (24 * r + a)), (5, vi (24 * s + a)), (4, vi s), (0, vr mO), (1, vi r), (2, vi a), (3, vi u)] [] := by
    intro l h2 h3
    refine AW.iload dX8_moves_28 rfl ?_
    refine AW.iconst dX8_moves_30 (by decide) ?_
    refine AW.icmp_ge (tgt := 80) dX8_moves_31 rfl (fun c_31 => ?_) (fun c_31 => ?_)
    · refine AW.aload_n dX8_moves_80 rfl ?_
      refine AW.iload_n dX8_moves_81 rfl ?_
      refine AW.iload dX8_moves_82 rfl ?_
      refine AW.iload_n dX8_moves_84 rfl ?_
      refine AW.aload_n dX8_moves_85 rfl ?_
      refine AW.mA 44 W dX8_moves_86 lkX8_125 rfl rfl ?_
      refine AW.iconst dX8_moves_89 (by decide) ?_
      refine AW.mldE (j := 44) W dX8_moves_90 rfl rfl (by simp only [mlen]; omega) (by apply zrow_ne rfl; exact zrow_e h2) ?_
      refine AW.aload_n dX8_moves_91 rfl ?_
      refine AW.mA 44 W dX8_moves_92 lkX8_125 rfl rfl ?_
      refine AW.iconst dX8_moves_95 (by decide) ?_
      refine AW.mldE (j := 44) W dX8_moves_96 rfl rfl (by simp only [mlen]; omega) (by apply zrow_ne rfl; exact zrow_e h3) ?_
      refine AW.callV (as := [vi _, vi _, vi _, vi _, vi _]) dX8_moves_97 rfl rfl rfl okX8_goes lkX8_276 W.1 rfl rfl rfl rfl rfl rfl rfl (kX8_goes (Z := zrow (zrow Z 45 w) 44 l) (t := t) W B hs ha st (fun t' e1 e2 => (AW.k0 ?_)))
      refine AW.aload_n dX8_moves_100 rfl ?_
      refine AW.mA 45 W dX8_moves_101 lkX8_128 rfl rfl ?_
      refine AW.iconst dX8_moves_104 (by decide) ?_
      refine AW.aload_n dX8_moves_105 rfl ?_
      refine AW.mA 43 W dX8_moves_106 lkX8_122 rfl rfl ?_
      refine AW.iconst dX8_moves_109 (by decide) ?_
      refine AW.mldE (j := 43) W dX8_moves_110 rfl rfl (by simp only [mlen]; omega) (by exact zrow_e (show t' 0 = zG0 Z u s a (zL Z r u (24 * s + a) 0) (zL Z r u (24 * s + a) 1) from e1)) ?_
      refine AW.mst (j := 45) W dX8_moves_111 rfl rfl (by simp only [mlen]; omega) ?_
      refine AW.aload_n dX8_moves_112 rfl ?_
      refine AW.mA 45 W dX8_moves_113 lkX8_128 rfl rfl ?_
      refine AW.pcs (pc2 := 116) rfl ?_
      refine AW.iconst dX8_moves_116 (by decide) ?_
      refine AW.aload_n dX8_moves_117 rfl ?_
      refine AW.mA 43 W dX8_moves_118 lkX8_122 rfl rfl ?_
      refine AW.iconst dX8_moves_121 (by decide) ?_
      refine AW.mldE (j := 43) W dX8_moves_122 rfl rfl (by simp only [mlen]; omega) (by apply zs_ne rfl; exact zrow_e (show t' 1 = zG1 Z u s a (zL Z r u (24 * s + a) 0) from e2)) ?_
      refine AW.mst (j := 45) W dX8_moves_123 rfl rfl (by simp only [mlen]; omega) ?_
      refine AW.mZ zs_z3_4 (AW.locs [(6, vi (24 * r + a)), (5, vi (24 * s + a)), (4, vi s), (0, vr mO), (1, vi r), (2, vi a), (3, vi u)] ⟨rfl, rfl, rfl, rfl, rfl, rfl, rfl, trivial⟩ (X8_moves_c (g0 := zG0 Z u s a (zL Z r u (24 * s + a) 0) (zL Z r u (24 * s + a) 1)) (g1 := zG1 Z u s a (zL Z r u (24 * s + a) 0)) W B st hr hs ha ?_ rfl rfl h2 h3))
      intro Z' r0 r1 e
      unfold zmv at k
      dsimp only at k
      rw [e] at k
      exact k
    · exact absurd c_31 (by omega)
  have lf : ∀ (l : Nat → Int) (j f : Int), (0 ≤ j ∧ j ≤ 1) → zon Z (24 * s + a) u j = f → (-1 ≤ f ∧ f < 48) → AW mX8_moves fX8_moves loX8_moves 0 0 Q 0 0 28 (mput h (z3 Z t (fun q => if q = j.toNat then zL Z r u (24 * s + a) j else l q) w)) [(7, vi (j + 1)), (6, vi (24 * r + a)), (5, vi (24 * s + a)), (4, vi s), (0, vr mO), (1, vi r), (2, vi a), (3, vi u)] [] →
      AW mX8_moves fX8_moves loX8_moves 0 0 Q 0 0 28 (mput h (z3 Z t l w)) [(7, vi j), (6, vi (24 * r + a)), (5, vi (24 * s + a)), (4, vi s), (0, vr mO), (1, vi r), (2, vi a), (3, vi u)] [] := by
    intro l j f hj ef hf k'
    have ef' : zon (z3 Z t l w) (24 * s + a) u j = f := ef
    refine AW.iload dX8_moves_28 rfl ?_
    refine AW.iconst dX8_moves_30 (by decide) ?_
    refine AW.icmp_ge (tgt := 80) dX8_moves_31 rfl (fun c_31 => ?_) (fun c_31 => ?_)
    · exact absurd c_31 (by omega)
    · refine AW.aload_n dX8_moves_34 rfl ?_
      refine AW.iload dX8_moves_35 rfl ?_
      refine AW.iload_n dX8_moves_37 rfl ?_
      refine AW.iload dX8_moves_38 rfl ?_
      refine AW.callV (as := [vi _, vi _, vi _]) dX8_moves_40 rfl rfl rfl okX8_onSide lkX8_272 W.1 rfl rfl rfl rfl rfl rfl rfl (kX8_onSide W (by omega) (by omega) (AW.k1 ?_))
      refine AW.top ef' ?_
      refine AW.istore dX8_moves_43 rfl ?_
      refine AW.aload_n dX8_moves_45 rfl ?_
      refine AW.mA 44 W dX8_moves_46 lkX8_125 rfl rfl ?_
      refine AW.iload dX8_moves_49 rfl ?_
      refine AW.iload dX8_moves_51 rfl ?_
      refine AW.iconst dX8_moves_53 (by decide) ?_
      refine' AW.icmp_neJ 73 (tgt := 61) dX8_moves_54 rfl _ _ _
      rotate_left 2
      · intro c_54 k_54
        refine AW.aload_n dX8_moves_61 rfl ?_
        refine AW.mA 22 W dX8_moves_62 lkX8_68 rfl rfl ?_
        refine AW.bipush dX8_moves_65 bp_48 (by decide) ?_
        refine AW.iload_n dX8_moves_67 rfl ?_
        refine AW.imulB dX8_moves_68 (by omega) ?_
        refine AW.iload dX8_moves_69 rfl ?_
        refine AW.iaddB dX8_moves_71 (by omega) ?_
        refine AW.mldE (j := 22) W dX8_moves_72 rfl rfl (by simp only [mlen]; omega) (by (repeat first | apply zs_ne rfl | apply zs_eq (by omega) | apply zs_miss (by omega) | apply zrow_ne rfl); exact rfl) ?_
        exact k_54
      · intro c_54 k_54
        refine AW.iconst dX8_moves_57 (by decide) ?_
        refine AW.goto (tgt := 73) dX8_moves_58 rfl ?_
        exact k_54
      refine AW.top (y := zL Z r u (24 * s + a) j) (by unfold zL; rw [ef]; (repeat' split) <;> first | rfl | omega) ?_
      refine AW.mst (j := 44) W dX8_moves_73 rfl rfl (by simp only [mlen]; omega) ?_
      refine AW.iincB dX8_moves_74 rfl rfl (by omega) ?_
      refine AW.goto (tgt := 28) dX8_moves_77 rfl ?_
      exact AW.locs [(7, vi (j + 1)), (6, vi (24 * r + a)), (5, vi (24 * s + a)), (4, vi s), (0, vr mO), (1, vi r), (2, vi a), (3, vi u)] ⟨rfl, rfl, rfl, rfl, rfl, rfl, rfl, rfl, trivial⟩ (AW.mZ zs_z3b k')
  refine AW.aload_n dX8_moves_0 rfl ?_
  refine AW.mA 20 W dX8_moves_1 lkX8_62 rfl rfl ?_
  refine AW.iload_n dX8_moves_4 rfl ?_
  refine AW.mldE (j := 20) W dX8_moves_5 rfl rfl (by simp only [mlen]; omega) (by exact zrow_ne rfl (zrow_ne rfl (zrow_ne rfl es))) ?_
  refine AW.istore dX8_moves_6 rfl ?_
  refine AW.bipush dX8_moves_8 bp_24 (by decide) ?_
  refine AW.iload dX8_moves_10 rfl ?_
  refine AW.imulB dX8_moves_12 (by omega) ?_
  refine AW.iload_n dX8_moves_13 rfl ?_
  refine AW.iaddB dX8_moves_14 (by omega) ?_
  refine AW.istore dX8_moves_15 rfl ?_
  refine AW.bipush dX8_moves_17 bp_24 (by decide) ?_
  refine AW.iload_n dX8_moves_19 rfl ?_
  refine AW.imulB dX8_moves_20 (by omega) ?_
  refine AW.iload_n dX8_moves_21 rfl ?_
  refine AW.iaddB dX8_moves_22 (by omega) ?_
  refine AW.istore dX8_moves_23 rfl ?_
  refine AW.iconst dX8_moves_25 (by decide) ?_
  refine AW.istore dX8_moves_26 rfl ?_
  exact lf l 0 _ (by omega) rfl (zon_rng B) (lf _ 1 _ (by omega) rfl (zon_rng B) (k80 _ rfl rfl))
end M14

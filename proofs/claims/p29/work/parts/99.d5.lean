/-! ===== the law's steps: turn, drop, toggleNeed ===== -/
section D5
variable {Q : AH → AO → Prop} {h g h1 : AH} {Z : ZT} {c b L a m f0 : Nat} {D K : Nat → Int} {W : Int}
set_option maxHeartbeats 4000000 in
theorem is_tur {one two three nm ot th fi se : Int} (J : IV L h Z c b) (V : JV h Z) (hv : Z 1 0 = (a : Int)) (ha : a ≤ 9) (h8 : Z 2 0 ≤ 8) (h1 : 0 ≤ one ∧ one < 10000) (h2 : 0 ≤ two ∧ two < 10000) (h3 : 0 ≤ three ∧ three < 10000) (hnm : 0 ≤ nm ∧ nm ≤ 5 ∨ nm = 26) (hot : 0 ≤ ot ∧ ot ≤ 6 ∨ ot = 26) (hth : 0 ≤ th ∧ th ≤ 6 ∨ th = 26) (efi : zfind Z 0 (Z 1 0) nm = fi) (ese : zfind Z 0 (Z 1 0) ot = se) (k : ∀ g Y, IV L g Y c b → JV g Y → Q g (.inl (some (vi 1)))) : AW mL_isStep fL_isStep loL_isStep 10 60 Q 10 60 127 h (lst 2 one two three nm ot th fi se) [] := by
  have K := J.K
  have b1 := K.b1
  have b2 := K.b2
  have zfi := zf_r K (a := Z 1 0) (n := nm)
  have zse := zf_r K (a := Z 1 0) (n := ot)
  rw [efi] at zfi
  rw [ese] at zse
  obtain ⟨m, hm⟩ := Int.eq_ofNat_of_zero_le b2.1
  have t4 := tmr (x := two) (n := 4) h2.1 (by decide)
  by_cases hf : fi = -1
  · refine AW.iload dL_isStep_127 rfl ?_
    refine AW.if_neT (tgt := 320) dL_isStep_129 rfl (by omega) ?_
    refine AW.iload dL_isStep_320 rfl ?_
    refine AW.iconst dL_isStep_322 (by decide) ?_
    refine AW.icmp_neT (tgt := 478) dL_isStep_323 rfl (by omega) ?_
    refine AW.iload dL_isStep_478 rfl ?_
    refine AW.if_ltT (tgt := 500) dL_isStep_480 rfl (by omega) ?_
    refine AW.iconst dL_isStep_500 (by decide) ?_
    refine AW.istore dL_isStep_501 rfl ?_
    refine AW.iload dL_isStep_503 rfl ?_
    refine AW.iconst dL_isStep_505 (by decide) ?_
    refine AW.icmp_neF (tgt := 644) dL_isStep_506 rfl (by omega) ?_
    refine AW.iload dL_isStep_509 rfl ?_
    refine AW.iconst dL_isStep_511 (by decide) ?_
    refine AW.irem dL_isStep_512 (by omega) ?_
    refine AW.istore dL_isStep_513 rfl ?_
    refine AW.iload dL_isStep_515 rfl ?_
    refine AW.if_geF (tgt := 526) dL_isStep_517 rfl (by omega) ?_
    refine AW.sipush dL_isStep_520 sp_m300 (by decide) ?_
    refine AW.goto (tgt := 558) dL_isStep_523 rfl ?_
    refine AW.istore dL_isStep_558 rfl ?_
    refine AW.iload dL_isStep_560 rfl ?_
    refine AW.if_ltT (tgt := 621) dL_isStep_562 rfl (by omega) ?_
    refine AW.pcs (pc2 := 621) rfl ?_
    refine AW.aload_n dL_isStep_621 rfl ?_
    refine AW.iconst dL_isStep_622 (by decide) ?_
    refine AW.iconst dL_isStep_623 (by decide) ?_
    refine AW.iload dL_isStep_624 rfl ?_
    refine AW.iload dL_isStep_626 rfl ?_
    refine AW.iconst dL_isStep_628 (by decide) ?_
    refine AW.iconst dL_isStep_629 (by decide) ?_
    refine AW.callSH (as := [vq _, vi _, vi _, vi _, vi _, vi _, vi _]) dL_isStep_630 rfl rfl rfl okL_does lkL_149 rfl rfl rfl (by omega) (by omega) rfl (q_tur J (fun _ => (AW.k1 ?_)) (fun z => absurd (efi.trans hf) z) (fun z => absurd (efi.trans hf) z) (fun z => absurd (efi.trans hf) z))
    refine AW.iload dL_isStep_633 rfl ?_
    refine AW.icmp_neF (tgt := 642) dL_isStep_635 rfl (by rfl) ?_
    refine AW.iconst dL_isStep_638 (by decide) ?_
    refine AW.goto (tgt := 643) dL_isStep_639 rfl ?_
    refine AW.zret dL_isStep_643 rfl ?_ ?_
    · omega
    exact k _ _ J V
  have hf' : ¬ zfind Z 0 (Z 1 0) nm = -1 := by rw [efi]; exact hf
  obtain ⟨f0, e0⟩ := Int.eq_ofNat_of_zero_le (show 0 ≤ fi by omega)
  subst e0
  have hp : ¬ Z 5 (48 * a + f0) = -1 := by
    have q := zf_x (Z := Z) (a := a) (n := nm) (by rw [← hv]; exact hf')
    rw [← hv, efi, Int.toNat_natCast] at q
    omega
  have hn25 : nm ≤ 25 := (zf_x (Z := Z) (a := a) (n := nm) (by rw [← hv]; exact hf')).2.2
  have kd0 := K.kd (f := f0) (by omega)
  obtain ⟨fd1, fd2⟩ := f_div K (f := f0) (by omega)
  by_cases e6 : Z 6 (48 * a + f0) = 0
  · have eB : bz (¬ Z 5 (48 * a + f0) = -1 ∧ ¬ Z 6 (48 * a + f0) = 0) = 0 := bz_0.mpr (fun z => z.2 e6)
    have eS : (0 : Int) = if Z 6 (48 * a + f0) = 0 then 0 else 32 := by rw [if_pos e6]
    by_cases hk : two.tmod 4 = 3
    · have hO : ¬ (0 ≤ two.tmod 4 ∧ two.tmod 4 ≤ 2) := by omega
      refine AW.iload dL_isStep_127 rfl ?_
      refine AW.if_neT (tgt := 320) dL_isStep_129 rfl (by omega) ?_
      refine AW.iload dL_isStep_320 rfl ?_
      refine AW.iconst dL_isStep_322 (by decide) ?_
      refine AW.icmp_neT (tgt := 478) dL_isStep_323 rfl (by omega) ?_
      refine AW.iload dL_isStep_478 rfl ?_
      refine AW.if_ltF (tgt := 500) dL_isStep_480 rfl (by omega) ?_
      refine AW.aload_n dL_isStep_483 rfl ?_
      refine AW.aload dL_isStep_484 rfl ?_
      refine AW.iconst dL_isStep_486 (by decide) ?_
      refine AW.aldIE dL_isStep_487 J.T.a4 (by omega) (by omega) (by exact V.s.g0.trans hv) ?_
      refine AW.iload dL_isStep_488 rfl ?_
      refine AW.callS (as := [vq _, vi _, vi _]) dL_isStep_490 rfl rfl rfl okL_isNeeded lkL_103 rfl rfl rfl (leb (by omega)) (leb (by omega)) rfl (kL_isNd J.T V.s K (v := a) (f := f0) (by omega) (by omega) (AW.k1 ?_))
      refine AW.top (y := 0) eB ?_
      refine AW.if_eqT (tgt := 500) dL_isStep_493 rfl (by decide) ?_
      refine AW.iconst dL_isStep_500 (by decide) ?_
      refine AW.istore dL_isStep_501 rfl ?_
      refine AW.iload dL_isStep_503 rfl ?_
      refine AW.iconst dL_isStep_505 (by decide) ?_
      refine AW.icmp_neF (tgt := 644) dL_isStep_506 rfl (by omega) ?_
      refine AW.iload dL_isStep_509 rfl ?_
      refine AW.iconst dL_isStep_511 (by decide) ?_
      refine AW.irem dL_isStep_512 (by omega) ?_
      refine AW.istore dL_isStep_513 rfl ?_
      refine AW.pcs (pc2 := 515) rfl ?_
      refine AW.iload dL_isStep_515 rfl ?_
      refine AW.if_geT (tgt := 526) dL_isStep_517 rfl (by omega) ?_
      refine AW.iload dL_isStep_526 rfl ?_
      refine AW.iconst dL_isStep_528 (by decide) ?_
      refine AW.icmp_neF (tgt := 538) dL_isStep_529 rfl (by omega) ?_
      refine AW.sipush dL_isStep_532 sp_m200 (by decide) ?_
      refine AW.goto (tgt := 558) dL_isStep_535 rfl ?_
      refine AW.istore dL_isStep_558 rfl ?_
      refine AW.iload dL_isStep_560 rfl ?_
      refine AW.if_ltT (tgt := 621) dL_isStep_562 rfl (by omega) ?_
      refine AW.aload_n dL_isStep_621 rfl ?_
      refine AW.iconst dL_isStep_622 (by decide) ?_
      refine AW.iconst dL_isStep_623 (by decide) ?_
      refine AW.iload dL_isStep_624 rfl ?_
      refine AW.iload dL_isStep_626 rfl ?_
      refine AW.iconst dL_isStep_628 (by decide) ?_
      refine AW.iconst dL_isStep_629 (by decide) ?_
      refine AW.callSH (as := [vq _, vi _, vi _, vi _, vi _, vi _, vi _]) dL_isStep_630 rfl rfl rfl okL_does lkL_149 rfl rfl rfl (by omega) (by omega) rfl (q_tur J (fun z => absurd z hf') (fun _ _ => (AW.k1 ?_)) (fun _ z => absurd z hO) (fun _ z => absurd z hO))
      refine AW.iload dL_isStep_633 rfl ?_
      refine AW.icmp_neF (tgt := 642) dL_isStep_635 rfl (by rfl) ?_
      refine AW.iconst dL_isStep_638 (by decide) ?_
      refine AW.goto (tgt := 643) dL_isStep_639 rfl ?_
      refine AW.zret dL_isStep_643 rfl ?_ ?_
      · omega
      exact k _ _ J V
    have hO : 0 ≤ two.tmod 4 ∧ two.tmod 4 ≤ 2 := by omega
    by_cases hz : Z 3 f0 = two.tmod 4
    · refine AW.iload dL_isStep_127 rfl ?_
      refine AW.if_neT (tgt := 320) dL_isStep_129 rfl (by omega) ?_
      refine AW.iload dL_isStep_320 rfl ?_
      refine AW.iconst dL_isStep_322 (by decide) ?_
      refine AW.icmp_neT (tgt := 478) dL_isStep_323 rfl (by omega) ?_
      refine AW.iload dL_isStep_478 rfl ?_
      refine AW.if_ltF (tgt := 500) dL_isStep_480 rfl (by omega) ?_
      refine AW.aload_n dL_isStep_483 rfl ?_
      refine AW.aload dL_isStep_484 rfl ?_
      refine AW.iconst dL_isStep_486 (by decide) ?_
      refine AW.aldIE dL_isStep_487 J.T.a4 (by omega) (by omega) (by exact V.s.g0.trans hv) ?_
      refine AW.iload dL_isStep_488 rfl ?_
      refine AW.callS (as := [vq _, vi _, vi _]) dL_isStep_490 rfl rfl rfl okL_isNeeded lkL_103 rfl rfl rfl (leb (by omega)) (leb (by omega)) rfl (kL_isNd J.T V.s K (v := a) (f := f0) (by omega) (by omega) (AW.k1 ?_))
      refine AW.top (y := 0) eB ?_
      refine AW.if_eqT (tgt := 500) dL_isStep_493 rfl (by decide) ?_
      refine AW.iconst dL_isStep_500 (by decide) ?_
      refine AW.istore dL_isStep_501 rfl ?_
      refine AW.iload dL_isStep_503 rfl ?_
      refine AW.iconst dL_isStep_505 (by decide) ?_
      refine AW.icmp_neF (tgt := 644) dL_isStep_506 rfl (by omega) ?_
      refine AW.iload dL_isStep_509 rfl ?_
      refine AW.iconst dL_isStep_511 (by decide) ?_
      refine AW.irem dL_isStep_512 (by omega) ?_
      refine AW.istore dL_isStep_513 rfl ?_
      refine AW.pcs (pc2 := 515) rfl ?_
      refine AW.iload dL_isStep_515 rfl ?_
      refine AW.if_geT (tgt := 526) dL_isStep_517 rfl (by omega) ?_
      refine AW.iload dL_isStep_526 rfl ?_
      refine AW.iconst dL_isStep_528 (by decide) ?_
      refine AW.icmp_neT (tgt := 538) dL_isStep_529 rfl (by omega) ?_
      refine AW.aload_n dL_isStep_538 rfl ?_
      refine AW.iload dL_isStep_539 rfl ?_
      refine AW.aldIE dL_isStep_541 J.T.a3 (by omega) (by omega) (by exact V.s.f (f := f0) (by omega)) ?_
      refine AW.iconst dL_isStep_542 (by decide) ?_
      refine AW.irem dL_isStep_543 (by omega) ?_
      refine AW.top fd2 ?_
      refine AW.iload dL_isStep_544 rfl ?_
      refine AW.icmp_neF (tgt := 554) dL_isStep_546 rfl (by omega) ?_
      refine AW.bipush dL_isStep_549 bp_m100 (by decide) ?_
      refine AW.goto (tgt := 558) dL_isStep_551 rfl ?_
      refine AW.istore dL_isStep_558 rfl ?_
      refine AW.iload dL_isStep_560 rfl ?_
      refine AW.if_ltT (tgt := 621) dL_isStep_562 rfl (by omega) ?_
      refine AW.aload_n dL_isStep_621 rfl ?_
      refine AW.iconst dL_isStep_622 (by decide) ?_
      refine AW.iconst dL_isStep_623 (by decide) ?_
      refine AW.iload dL_isStep_624 rfl ?_
      refine AW.iload dL_isStep_626 rfl ?_
      refine AW.iconst dL_isStep_628 (by decide) ?_
      refine AW.iconst dL_isStep_629 (by decide) ?_
      refine AW.pcs (pc2 := 630) rfl ?_
      refine AW.callSH (as := [vq _, vi _, vi _, vi _, vi _, vi _, vi _]) dL_isStep_630 rfl rfl rfl okL_does lkL_149 rfl rfl rfl (by omega) (by omega) rfl (q_tur J (fun z => absurd z hf') (fun _ z => absurd hO z) (fun _ _ _ => (AW.k1 ?_)) (fun _ _ z => absurd (by rw [efi]; exact hz) z))
      refine AW.iload dL_isStep_633 rfl ?_
      refine AW.icmp_neF (tgt := 642) dL_isStep_635 rfl (by rfl) ?_
      refine AW.iconst dL_isStep_638 (by decide) ?_
      refine AW.goto (tgt := 643) dL_isStep_639 rfl ?_
      refine AW.zret dL_isStep_643 rfl ?_ ?_
      · omega
      exact k _ _ J V
    · have tb := ztur_b (v := Z 4 f0) (f := Z 3 f0) (t := two.tmod 4) (by omega)
      refine AW.iload dL_isStep_127 rfl ?_
      refine AW.if_neT (tgt := 320) dL_isStep_129 rfl (by omega) ?_
      refine AW.iload dL_isStep_320 rfl ?_
      refine AW.iconst dL_isStep_322 (by decide) ?_
      refine AW.icmp_neT (tgt := 478) dL_isStep_323 rfl (by omega) ?_
      refine AW.iload dL_isStep_478 rfl ?_
      refine AW.if_ltF (tgt := 500) dL_isStep_480 rfl (by omega) ?_
      refine AW.aload_n dL_isStep_483 rfl ?_
      refine AW.aload dL_isStep_484 rfl ?_
      refine AW.iconst dL_isStep_486 (by decide) ?_
      refine AW.aldIE dL_isStep_487 J.T.a4 (by omega) (by omega) (by exact V.s.g0.trans hv) ?_
      refine AW.iload dL_isStep_488 rfl ?_
      refine AW.callS (as := [vq _, vi _, vi _]) dL_isStep_490 rfl rfl rfl okL_isNeeded lkL_103 rfl rfl rfl (leb (by omega)) (leb (by omega)) rfl (kL_isNd J.T V.s K (v := a) (f := f0) (by omega) (by omega) (AW.k1 ?_))
      refine AW.top (y := 0) eB ?_
      refine AW.if_eqT (tgt := 500) dL_isStep_493 rfl (by decide) ?_
      refine AW.iconst dL_isStep_500 (by decide) ?_
      refine AW.istore dL_isStep_501 rfl ?_
      refine AW.iload dL_isStep_503 rfl ?_
      refine AW.iconst dL_isStep_505 (by decide) ?_
      refine AW.icmp_neF (tgt := 644) dL_isStep_506 rfl (by omega) ?_
      refine AW.iload dL_isStep_509 rfl ?_
      refine AW.iconst dL_isStep_511 (by decide) ?_
      refine AW.irem dL_isStep_512 (by omega) ?_
      refine AW.istore dL_isStep_513 rfl ?_
      refine AW.pcs (pc2 := 515) rfl ?_
      refine AW.iload dL_isStep_515 rfl ?_
      refine AW.if_geT (tgt := 526) dL_isStep_517 rfl (by omega) ?_
      refine AW.iload dL_isStep_526 rfl ?_
      refine AW.iconst dL_isStep_528 (by decide) ?_
      refine AW.icmp_neT (tgt := 538) dL_isStep_529 rfl (by omega) ?_
      refine AW.aload_n dL_isStep_538 rfl ?_
      refine AW.iload dL_isStep_539 rfl ?_
      refine AW.aldIE dL_isStep_541 J.T.a3 (by omega) (by omega) (by exact V.s.f (f := f0) (by omega)) ?_
      refine AW.iconst dL_isStep_542 (by decide) ?_
      refine AW.irem dL_isStep_543 (by omega) ?_
      refine AW.top fd2 ?_
      refine AW.iload dL_isStep_544 rfl ?_
      refine AW.icmp_neT (tgt := 554) dL_isStep_546 rfl (by omega) ?_
      refine AW.aload dL_isStep_554 rfl ?_
      refine AW.iconst dL_isStep_556 (by decide) ?_
      refine AW.aldIE dL_isStep_557 J.T.a4 (by omega) (by omega) (by exact V.s.g1) ?_
      refine AW.istore dL_isStep_558 rfl ?_
      refine AW.iload dL_isStep_560 rfl ?_
      refine AW.if_ltF (tgt := 621) dL_isStep_562 rfl (by omega) ?_
      refine AW.aload_n dL_isStep_565 rfl ?_
      refine AW.iload dL_isStep_566 rfl ?_
      refine AW.aldIE dL_isStep_568 J.T.a3 (by omega) (by omega) (by exact V.s.f (f := f0) (by omega)) ?_
      refine AW.iconst dL_isStep_569 (by decide) ?_
      refine AW.idiv dL_isStep_570 (by omega) ?_
      refine AW.top fd1 ?_
      refine AW.aload_n dL_isStep_571 rfl ?_
      refine AW.pcs (pc2 := 572) rfl ?_
      refine AW.iload dL_isStep_572 rfl ?_
      refine AW.aldIE dL_isStep_574 J.T.a3 (by omega) (by omega) (by exact V.s.f (f := f0) (by omega)) ?_
      refine AW.iconst dL_isStep_575 (by decide) ?_
      refine AW.irem dL_isStep_576 (by omega) ?_
      refine AW.top fd2 ?_
      refine AW.iload dL_isStep_577 rfl ?_
      refine AW.callS (as := [vi _, vi _, vi _]) dL_isStep_579 rfl rfl rfl okL_turned lkL_94 rfl rfl rfl (leb (by omega)) (leb (by omega)) rfl (kL_turned (by omega) (AW.k1 ?_))
      refine AW.istore dL_isStep_582 rfl ?_
      refine AW.aload_n dL_isStep_584 rfl ?_
      refine AW.aload_n dL_isStep_585 rfl ?_
      refine AW.aload dL_isStep_586 rfl ?_
      refine AW.iconst dL_isStep_588 (by decide) ?_
      refine AW.iload dL_isStep_589 rfl ?_
      refine AW.iconst dL_isStep_591 (by decide) ?_
      refine AW.iconst dL_isStep_592 (by decide) ?_
      refine AW.callS (as := [vq _, vq _, vq _, vi _, vi _, vi _, vi _]) dL_isStep_593 rfl rfl rfl okL_begins lkL_141 rfl rfl rfl (leb (by omega)) (leb (by omega)) rfl (kL_begins (K := fun _ => 0) (d := a + 1) J.T V.s (by omega) (by omega) (by omega) (by omega) (by omega) (by omega) (by omega) (fun g1 F1 C1 => (AW.k0 ?_)))
      have C1 := C1.n hm
      have T1 := F1.1.T J.T
      refine AW.aload_n dL_isStep_596 rfl ?_
      refine AW.aload dL_isStep_597 rfl ?_
      refine AW.iload dL_isStep_599 rfl ?_
      refine AW.callS (as := [vq _, vq _, vi _]) dL_isStep_601 rfl rfl rfl okL_goes lkL_155 rfl rfl rfl (leb (by omega)) (leb (by omega)) rfl (kL_goes T1 C1 (by omega) (by omega) (fun g2 F2 C2 => (AW.k0 ?_)))
      have T2 := F2.1.T T1
      refine AW.aload_n dL_isStep_604 rfl ?_
      refine AW.aload_n dL_isStep_605 rfl ?_
      refine AW.aload_n dL_isStep_606 rfl ?_
      refine AW.aload dL_isStep_607 rfl ?_
      refine AW.iload dL_isStep_609 rfl ?_
      refine AW.pcs (pc2 := 611) rfl ?_
      refine AW.iload dL_isStep_611 rfl ?_
      refine AW.iload dL_isStep_613 rfl ?_
      refine AW.iload dL_isStep_615 rfl ?_
      refine AW.iconst dL_isStep_617 (by decide) ?_
      refine AW.callS (as := [vq _, vq _, vq _, vq _, vi _, vi _, vi _, vi _, vi _]) dL_isStep_618 rfl rfl rfl okL_makes lkL_145 rfl rfl rfl (leb (by omega)) (leb (by omega)) rfl (kL_makes00 (m := m) T2 C2 (by omega) (by omega) (by omega) (by omega) ((if_neg (by omega)).trans (zdg_0 K (by omega) (by omega) (by omega))) (by omega) (by omega) (by omega) (fun g3 F3 C3 => (AW.k0 ?_)))
      refine AW.aload_n dL_isStep_621 rfl ?_
      refine AW.iconst dL_isStep_622 (by decide) ?_
      refine AW.iconst dL_isStep_623 (by decide) ?_
      refine AW.iload dL_isStep_624 rfl ?_
      refine AW.iload dL_isStep_626 rfl ?_
      refine AW.iconst dL_isStep_628 (by decide) ?_
      refine AW.iconst dL_isStep_629 (by decide) ?_
      refine AW.callSH (as := [vq _, vi _, vi _, vi _, vi _, vi _, vi _]) dL_isStep_630 rfl rfl rfl okL_does lkL_149 rfl rfl rfl (by omega) (by omega) rfl (q_tur (J.fl ((F1.tr F2).tr F3).1) (fun z => absurd z hf') (fun _ z => absurd hO z) (fun _ _ z => absurd z (by rw [efi]; exact hz)) (fun _ _ _ g5 S5 I5 Fr5 => (AW.k1 ?_)))
      refine AW.iload dL_isStep_633 rfl ?_
      refine AW.icmp_neF (tgt := 642) dL_isStep_635 rfl (by rfl) ?_
      refine AW.iconst dL_isStep_638 (by decide) ?_
      refine AW.goto (tgt := 643) dL_isStep_639 rfl ?_
      refine AW.zret dL_isStep_643 rfl ?_ ?_
      · omega
      have q := g_tur J V ((F1.tr F2).tr F3) hv ha hm (by omega) (by omega) efi (by omega) C3 (fun i hi => by rw [← eS]; rfl) (by omega) (if_pos rfl) S5 I5 Fr5
      exact k _ _ q.1 q.2
  · have eB : bz (¬ Z 5 (48 * a + f0) = -1 ∧ ¬ Z 6 (48 * a + f0) = 0) = 1 := bz_1.mpr ⟨hp, e6⟩
    have eS : (32 : Int) = if Z 6 (48 * a + f0) = 0 then 0 else 32 := by rw [if_neg e6]
    by_cases hk : two.tmod 4 = 3
    · have hO : ¬ (0 ≤ two.tmod 4 ∧ two.tmod 4 ≤ 2) := by omega
      refine AW.iload dL_isStep_127 rfl ?_
      refine AW.if_neT (tgt := 320) dL_isStep_129 rfl (by omega) ?_
      refine AW.iload dL_isStep_320 rfl ?_
      refine AW.iconst dL_isStep_322 (by decide) ?_
      refine AW.icmp_neT (tgt := 478) dL_isStep_323 rfl (by omega) ?_
      refine AW.iload dL_isStep_478 rfl ?_
      refine AW.if_ltF (tgt := 500) dL_isStep_480 rfl (by omega) ?_
      refine AW.aload_n dL_isStep_483 rfl ?_
      refine AW.aload dL_isStep_484 rfl ?_
      refine AW.iconst dL_isStep_486 (by decide) ?_
      refine AW.aldIE dL_isStep_487 J.T.a4 (by omega) (by omega) (by exact V.s.g0.trans hv) ?_
      refine AW.iload dL_isStep_488 rfl ?_
      refine AW.callS (as := [vq _, vi _, vi _]) dL_isStep_490 rfl rfl rfl okL_isNeeded lkL_103 rfl rfl rfl (leb (by omega)) (leb (by omega)) rfl (kL_isNd J.T V.s K (v := a) (f := f0) (by omega) (by omega) (AW.k1 ?_))
      refine AW.top (y := 1) eB ?_
      refine AW.if_eqF (tgt := 500) dL_isStep_493 rfl (by decide) ?_
      refine AW.iconst dL_isStep_496 (by decide) ?_
      refine AW.goto (tgt := 501) dL_isStep_497 rfl ?_
      refine AW.istore dL_isStep_501 rfl ?_
      refine AW.iload dL_isStep_503 rfl ?_
      refine AW.iconst dL_isStep_505 (by decide) ?_
      refine AW.icmp_neF (tgt := 644) dL_isStep_506 rfl (by omega) ?_
      refine AW.iload dL_isStep_509 rfl ?_
      refine AW.iconst dL_isStep_511 (by decide) ?_
      refine AW.irem dL_isStep_512 (by omega) ?_
      refine AW.pcs (pc2 := 513) rfl ?_
      refine AW.istore dL_isStep_513 rfl ?_
      refine AW.iload dL_isStep_515 rfl ?_
      refine AW.if_geT (tgt := 526) dL_isStep_517 rfl (by omega) ?_
      refine AW.iload dL_isStep_526 rfl ?_
      refine AW.iconst dL_isStep_528 (by decide) ?_
      refine AW.icmp_neF (tgt := 538) dL_isStep_529 rfl (by omega) ?_
      refine AW.sipush dL_isStep_532 sp_m200 (by decide) ?_
      refine AW.goto (tgt := 558) dL_isStep_535 rfl ?_
      refine AW.istore dL_isStep_558 rfl ?_
      refine AW.iload dL_isStep_560 rfl ?_
      refine AW.if_ltT (tgt := 621) dL_isStep_562 rfl (by omega) ?_
      refine AW.aload_n dL_isStep_621 rfl ?_
      refine AW.iconst dL_isStep_622 (by decide) ?_
      refine AW.iconst dL_isStep_623 (by decide) ?_
      refine AW.iload dL_isStep_624 rfl ?_
      refine AW.iload dL_isStep_626 rfl ?_
      refine AW.iconst dL_isStep_628 (by decide) ?_
      refine AW.iconst dL_isStep_629 (by decide) ?_
      refine AW.callSH (as := [vq _, vi _, vi _, vi _, vi _, vi _, vi _]) dL_isStep_630 rfl rfl rfl okL_does lkL_149 rfl rfl rfl (by omega) (by omega) rfl (q_tur J (fun z => absurd z hf') (fun _ _ => (AW.k1 ?_)) (fun _ z => absurd z hO) (fun _ z => absurd z hO))
      refine AW.iload dL_isStep_633 rfl ?_
      refine AW.icmp_neF (tgt := 642) dL_isStep_635 rfl (by rfl) ?_
      refine AW.iconst dL_isStep_638 (by decide) ?_
      refine AW.goto (tgt := 643) dL_isStep_639 rfl ?_
      refine AW.zret dL_isStep_643 rfl ?_ ?_
      · omega
      exact k _ _ J V
    have hO : 0 ≤ two.tmod 4 ∧ two.tmod 4 ≤ 2 := by omega
    by_cases hz : Z 3 f0 = two.tmod 4
    · refine AW.iload dL_isStep_127 rfl ?_
      refine AW.if_neT (tgt := 320) dL_isStep_129 rfl (by omega) ?_
      refine AW.iload dL_isStep_320 rfl ?_
      refine AW.iconst dL_isStep_322 (by decide) ?_
      refine AW.icmp_neT (tgt := 478) dL_isStep_323 rfl (by omega) ?_
      refine AW.iload dL_isStep_478 rfl ?_
      refine AW.if_ltF (tgt := 500) dL_isStep_480 rfl (by omega) ?_
      refine AW.aload_n dL_isStep_483 rfl ?_
      refine AW.aload dL_isStep_484 rfl ?_
      refine AW.iconst dL_isStep_486 (by decide) ?_
      refine AW.aldIE dL_isStep_487 J.T.a4 (by omega) (by omega) (by exact V.s.g0.trans hv) ?_
      refine AW.iload dL_isStep_488 rfl ?_
      refine AW.callS (as := [vq _, vi _, vi _]) dL_isStep_490 rfl rfl rfl okL_isNeeded lkL_103 rfl rfl rfl (leb (by omega)) (leb (by omega)) rfl (kL_isNd J.T V.s K (v := a) (f := f0) (by omega) (by omega) (AW.k1 ?_))
      refine AW.top (y := 1) eB ?_
      refine AW.if_eqF (tgt := 500) dL_isStep_493 rfl (by decide) ?_
      refine AW.iconst dL_isStep_496 (by decide) ?_
      refine AW.goto (tgt := 501) dL_isStep_497 rfl ?_
      refine AW.istore dL_isStep_501 rfl ?_
      refine AW.iload dL_isStep_503 rfl ?_
      refine AW.iconst dL_isStep_505 (by decide) ?_
      refine AW.icmp_neF (tgt := 644) dL_isStep_506 rfl (by omega) ?_
      refine AW.iload dL_isStep_509 rfl ?_
      refine AW.iconst dL_isStep_511 (by decide) ?_
      refine AW.irem dL_isStep_512 (by omega) ?_
      refine AW.pcs (pc2 := 513) rfl ?_
      refine AW.istore dL_isStep_513 rfl ?_
      refine AW.iload dL_isStep_515 rfl ?_
      refine AW.if_geT (tgt := 526) dL_isStep_517 rfl (by omega) ?_
      refine AW.iload dL_isStep_526 rfl ?_
      refine AW.iconst dL_isStep_528 (by decide) ?_
      refine AW.icmp_neT (tgt := 538) dL_isStep_529 rfl (by omega) ?_
      refine AW.aload_n dL_isStep_538 rfl ?_
      refine AW.iload dL_isStep_539 rfl ?_
      refine AW.aldIE dL_isStep_541 J.T.a3 (by omega) (by omega) (by exact V.s.f (f := f0) (by omega)) ?_
      refine AW.iconst dL_isStep_542 (by decide) ?_
      refine AW.irem dL_isStep_543 (by omega) ?_
      refine AW.top fd2 ?_
      refine AW.iload dL_isStep_544 rfl ?_
      refine AW.icmp_neF (tgt := 554) dL_isStep_546 rfl (by omega) ?_
      refine AW.bipush dL_isStep_549 bp_m100 (by decide) ?_
      refine AW.goto (tgt := 558) dL_isStep_551 rfl ?_
      refine AW.istore dL_isStep_558 rfl ?_
      refine AW.iload dL_isStep_560 rfl ?_
      refine AW.if_ltT (tgt := 621) dL_isStep_562 rfl (by omega) ?_
      refine AW.aload_n dL_isStep_621 rfl ?_
      refine AW.iconst dL_isStep_622 (by decide) ?_
      refine AW.iconst dL_isStep_623 (by decide) ?_
      refine AW.iload dL_isStep_624 rfl ?_
      refine AW.iload dL_isStep_626 rfl ?_
      refine AW.iconst dL_isStep_628 (by decide) ?_
      refine AW.pcs (pc2 := 629) rfl ?_
      refine AW.iconst dL_isStep_629 (by decide) ?_
      refine AW.callSH (as := [vq _, vi _, vi _, vi _, vi _, vi _, vi _]) dL_isStep_630 rfl rfl rfl okL_does lkL_149 rfl rfl rfl (by omega) (by omega) rfl (q_tur J (fun z => absurd z hf') (fun _ z => absurd hO z) (fun _ _ _ => (AW.k1 ?_)) (fun _ _ z => absurd (by rw [efi]; exact hz) z))
      refine AW.iload dL_isStep_633 rfl ?_
      refine AW.icmp_neF (tgt := 642) dL_isStep_635 rfl (by rfl) ?_
      refine AW.iconst dL_isStep_638 (by decide) ?_
      refine AW.goto (tgt := 643) dL_isStep_639 rfl ?_
      refine AW.zret dL_isStep_643 rfl ?_ ?_
      · omega
      exact k _ _ J V
    · have tb := ztur_b (v := Z 4 f0) (f := Z 3 f0) (t := two.tmod 4) (by omega)
      refine AW.iload dL_isStep_127 rfl ?_
      refine AW.if_neT (tgt := 320) dL_isStep_129 rfl (by omega) ?_
      refine AW.iload dL_isStep_320 rfl ?_
      refine AW.iconst dL_isStep_322 (by decide) ?_
      refine AW.icmp_neT (tgt := 478) dL_isStep_323 rfl (by omega) ?_
      refine AW.iload dL_isStep_478 rfl ?_
      refine AW.if_ltF (tgt := 500) dL_isStep_480 rfl (by omega) ?_
      refine AW.aload_n dL_isStep_483 rfl ?_
      refine AW.aload dL_isStep_484 rfl ?_
      refine AW.iconst dL_isStep_486 (by decide) ?_
      refine AW.aldIE dL_isStep_487 J.T.a4 (by omega) (by omega) (by exact V.s.g0.trans hv) ?_
      refine AW.iload dL_isStep_488 rfl ?_
      refine AW.callS (as := [vq _, vi _, vi _]) dL_isStep_490 rfl rfl rfl okL_isNeeded lkL_103 rfl rfl rfl (leb (by omega)) (leb (by omega)) rfl (kL_isNd J.T V.s K (v := a) (f := f0) (by omega) (by omega) (AW.k1 ?_))
      refine AW.top (y := 1) eB ?_
      refine AW.if_eqF (tgt := 500) dL_isStep_493 rfl (by decide) ?_
      refine AW.iconst dL_isStep_496 (by decide) ?_
      refine AW.goto (tgt := 501) dL_isStep_497 rfl ?_
      refine AW.istore dL_isStep_501 rfl ?_
      refine AW.iload dL_isStep_503 rfl ?_
      refine AW.iconst dL_isStep_505 (by decide) ?_
      refine AW.icmp_neF (tgt := 644) dL_isStep_506 rfl (by omega) ?_
      refine AW.iload dL_isStep_509 rfl ?_
      refine AW.iconst dL_isStep_511 (by decide) ?_
      refine AW.irem dL_isStep_512 (by omega) ?_
      refine AW.pcs (pc2 := 513) rfl ?_
      refine AW.istore dL_isStep_513 rfl ?_
      refine AW.iload dL_isStep_515 rfl ?_
      refine AW.if_geT (tgt := 526) dL_isStep_517 rfl (by omega) ?_
      refine AW.iload dL_isStep_526 rfl ?_
      refine AW.iconst dL_isStep_528 (by decide) ?_
      refine AW.icmp_neT (tgt := 538) dL_isStep_529 rfl (by omega) ?_
      refine AW.aload_n dL_isStep_538 rfl ?_
      refine AW.iload dL_isStep_539 rfl ?_
      refine AW.aldIE dL_isStep_541 J.T.a3 (by omega) (by omega) (by exact V.s.f (f := f0) (by omega)) ?_
      refine AW.iconst dL_isStep_542 (by decide) ?_
      refine AW.irem dL_isStep_543 (by omega) ?_
      refine AW.top fd2 ?_
      refine AW.iload dL_isStep_544 rfl ?_
      refine AW.icmp_neT (tgt := 554) dL_isStep_546 rfl (by omega) ?_
      refine AW.aload dL_isStep_554 rfl ?_
      refine AW.iconst dL_isStep_556 (by decide) ?_
      refine AW.aldIE dL_isStep_557 J.T.a4 (by omega) (by omega) (by exact V.s.g1) ?_
      refine AW.istore dL_isStep_558 rfl ?_
      refine AW.iload dL_isStep_560 rfl ?_
      refine AW.if_ltF (tgt := 621) dL_isStep_562 rfl (by omega) ?_
      refine AW.aload_n dL_isStep_565 rfl ?_
      refine AW.iload dL_isStep_566 rfl ?_
      refine AW.aldIE dL_isStep_568 J.T.a3 (by omega) (by omega) (by exact V.s.f (f := f0) (by omega)) ?_
      refine AW.iconst dL_isStep_569 (by decide) ?_
      refine AW.idiv dL_isStep_570 (by omega) ?_
      refine AW.top fd1 ?_
      refine AW.pcs (pc2 := 571) rfl ?_
      refine AW.aload_n dL_isStep_571 rfl ?_
      refine AW.iload dL_isStep_572 rfl ?_
      refine AW.aldIE dL_isStep_574 J.T.a3 (by omega) (by omega) (by exact V.s.f (f := f0) (by omega)) ?_
      refine AW.iconst dL_isStep_575 (by decide) ?_
      refine AW.irem dL_isStep_576 (by omega) ?_
      refine AW.top fd2 ?_
      refine AW.iload dL_isStep_577 rfl ?_
      refine AW.callS (as := [vi _, vi _, vi _]) dL_isStep_579 rfl rfl rfl okL_turned lkL_94 rfl rfl rfl (leb (by omega)) (leb (by omega)) rfl (kL_turned (by omega) (AW.k1 ?_))
      refine AW.istore dL_isStep_582 rfl ?_
      refine AW.aload_n dL_isStep_584 rfl ?_
      refine AW.aload_n dL_isStep_585 rfl ?_
      refine AW.aload dL_isStep_586 rfl ?_
      refine AW.iconst dL_isStep_588 (by decide) ?_
      refine AW.iload dL_isStep_589 rfl ?_
      refine AW.iconst dL_isStep_591 (by decide) ?_
      refine AW.iconst dL_isStep_592 (by decide) ?_
      refine AW.callS (as := [vq _, vq _, vq _, vi _, vi _, vi _, vi _]) dL_isStep_593 rfl rfl rfl okL_begins lkL_141 rfl rfl rfl (leb (by omega)) (leb (by omega)) rfl (kL_begins (K := fun _ => 0) (d := a + 1) J.T V.s (by omega) (by omega) (by omega) (by omega) (by omega) (by omega) (by omega) (fun g1 F1 C1 => (AW.k0 ?_)))
      have C1 := C1.n hm
      have T1 := F1.1.T J.T
      refine AW.aload_n dL_isStep_596 rfl ?_
      refine AW.aload dL_isStep_597 rfl ?_
      refine AW.iload dL_isStep_599 rfl ?_
      refine AW.callS (as := [vq _, vq _, vi _]) dL_isStep_601 rfl rfl rfl okL_goes lkL_155 rfl rfl rfl (leb (by omega)) (leb (by omega)) rfl (kL_goes T1 C1 (by omega) (by omega) (fun g2 F2 C2 => (AW.k0 ?_)))
      have T2 := F2.1.T T1
      refine AW.aload_n dL_isStep_604 rfl ?_
      refine AW.aload_n dL_isStep_605 rfl ?_
      refine AW.aload_n dL_isStep_606 rfl ?_
      refine AW.aload dL_isStep_607 rfl ?_
      refine AW.pcs (pc2 := 609) rfl ?_
      refine AW.iload dL_isStep_609 rfl ?_
      refine AW.iload dL_isStep_611 rfl ?_
      refine AW.iload dL_isStep_613 rfl ?_
      refine AW.iload dL_isStep_615 rfl ?_
      refine AW.iconst dL_isStep_617 (by decide) ?_
      refine AW.callS (as := [vq _, vq _, vq _, vq _, vi _, vi _, vi _, vi _, vi _]) dL_isStep_618 rfl rfl rfl okL_makes lkL_145 rfl rfl rfl (leb (by omega)) (leb (by omega)) rfl (kL_makes10 (m := m) T2 C2 (by omega) (by omega) (by omega) (by omega) ((if_neg (by omega)).trans (zdg_0 K (by omega) (by omega) (by omega))) (by omega) (by omega) (by omega) (fun g3 F3 C3 => (AW.k0 ?_)))
      refine AW.aload_n dL_isStep_621 rfl ?_
      refine AW.iconst dL_isStep_622 (by decide) ?_
      refine AW.iconst dL_isStep_623 (by decide) ?_
      refine AW.iload dL_isStep_624 rfl ?_
      refine AW.iload dL_isStep_626 rfl ?_
      refine AW.iconst dL_isStep_628 (by decide) ?_
      refine AW.iconst dL_isStep_629 (by decide) ?_
      refine AW.callSH (as := [vq _, vi _, vi _, vi _, vi _, vi _, vi _]) dL_isStep_630 rfl rfl rfl okL_does lkL_149 rfl rfl rfl (by omega) (by omega) rfl (q_tur (J.fl ((F1.tr F2).tr F3).1) (fun z => absurd z hf') (fun _ z => absurd hO z) (fun _ _ z => absurd z (by rw [efi]; exact hz)) (fun _ _ _ g5 S5 I5 Fr5 => (AW.k1 ?_)))
      refine AW.iload dL_isStep_633 rfl ?_
      refine AW.icmp_neF (tgt := 642) dL_isStep_635 rfl (by rfl) ?_
      refine AW.iconst dL_isStep_638 (by decide) ?_
      refine AW.goto (tgt := 643) dL_isStep_639 rfl ?_
      refine AW.zret dL_isStep_643 rfl ?_ ?_
      · omega
      have q := g_tur J V ((F1.tr F2).tr F3) hv ha hm (by omega) (by omega) efi (by omega) C3 (fun i hi => by rw [← eS]; rfl) (by omega) (if_pos rfl) S5 I5 Fr5
      exact k _ _ q.1 q.2
set_option maxHeartbeats 4000000 in
theorem is_dro {one two three nm ot th fi se : Int} (J : IV L h Z c b) (V : JV h Z) (hv : Z 1 0 = (a : Int)) (ha : a ≤ 9) (h8 : Z 2 0 ≤ 8) (h1 : 0 ≤ one ∧ one < 10000) (h2 : 0 ≤ two ∧ two < 10000) (h3 : 0 ≤ three ∧ three < 10000) (hnm : 0 ≤ nm ∧ nm ≤ 5 ∨ nm = 26) (hot : 0 ≤ ot ∧ ot ≤ 6 ∨ ot = 26) (hth : 0 ≤ th ∧ th ≤ 6 ∨ th = 26) (efi : zfind Z 0 (Z 1 0) nm = fi) (ese : zfind Z 0 (Z 1 0) ot = se) (k : ∀ g Y, IV L g Y c b → JV g Y → Q g (.inl (some (vi 1)))) : AW mL_isStep fL_isStep loL_isStep 10 60 Q 10 60 127 h (lst 5 one two three nm ot th fi se) [] := by
  have K := J.K
  have b1 := K.b1
  have b2 := K.b2
  have zfi := zf_r K (a := Z 1 0) (n := nm)
  have zse := zf_r K (a := Z 1 0) (n := ot)
  rw [efi] at zfi
  rw [ese] at zse
  obtain ⟨m, hm⟩ := Int.eq_ofNat_of_zero_le b2.1
  by_cases hf : fi = -1
  · refine AW.iload dL_isStep_127 rfl ?_
    refine AW.if_neT (tgt := 320) dL_isStep_129 rfl (by omega) ?_
    refine AW.iload dL_isStep_320 rfl ?_
    refine AW.iconst dL_isStep_322 (by decide) ?_
    refine AW.icmp_neT (tgt := 478) dL_isStep_323 rfl (by omega) ?_
    refine AW.iload dL_isStep_478 rfl ?_
    refine AW.if_ltT (tgt := 500) dL_isStep_480 rfl (by omega) ?_
    refine AW.iconst dL_isStep_500 (by decide) ?_
    refine AW.istore dL_isStep_501 rfl ?_
    refine AW.iload dL_isStep_503 rfl ?_
    refine AW.iconst dL_isStep_505 (by decide) ?_
    refine AW.icmp_neT (tgt := 644) dL_isStep_506 rfl (by omega) ?_
    refine AW.iload dL_isStep_644 rfl ?_
    refine AW.iconst dL_isStep_646 (by decide) ?_
    refine AW.icmp_neT (tgt := 912) dL_isStep_647 rfl (by omega) ?_
    refine AW.iload dL_isStep_912 rfl ?_
    refine AW.iconst dL_isStep_914 (by decide) ?_
    refine AW.icmp_neT (tgt := 1213) dL_isStep_915 rfl (by omega) ?_
    refine AW.iload dL_isStep_1213 rfl ?_
    refine AW.if_geF (tgt := 1224) dL_isStep_1215 rfl (by omega) ?_
    refine AW.sipush dL_isStep_1218 sp_m300 (by decide) ?_
    refine AW.goto (tgt := 1240) dL_isStep_1221 rfl ?_
    refine AW.istore dL_isStep_1240 rfl ?_
    refine AW.pcs (pc2 := 1242) rfl ?_
    refine AW.iload dL_isStep_1242 rfl ?_
    refine AW.if_ltT (tgt := 1312) dL_isStep_1244 rfl (by omega) ?_
    refine AW.aload_n dL_isStep_1312 rfl ?_
    refine AW.iload dL_isStep_1313 rfl ?_
    refine AW.iconst dL_isStep_1315 (by decide) ?_
    refine AW.iload dL_isStep_1316 rfl ?_
    refine AW.iconst dL_isStep_1318 (by decide) ?_
    refine AW.iconst dL_isStep_1319 (by decide) ?_
    refine AW.iconst dL_isStep_1320 (by decide) ?_
    refine AW.callSH (as := [vq _, vi _, vi _, vi _, vi _, vi _, vi _]) dL_isStep_1321 rfl rfl rfl okL_does lkL_149 rfl rfl rfl (by omega) (by omega) rfl (q_dro J (fun _ => (AW.k1 ?_)) (fun z => absurd (efi.trans hf) z))
    refine AW.iload dL_isStep_1324 rfl ?_
    refine AW.icmp_neF (tgt := 1333) dL_isStep_1326 rfl (by rfl) ?_
    refine AW.iconst dL_isStep_1329 (by decide) ?_
    refine AW.goto (tgt := 1334) dL_isStep_1330 rfl ?_
    refine AW.zret dL_isStep_1334 rfl ?_ ?_
    · omega
    exact k _ _ J V
  have hf' : ¬ zfind Z 0 (Z 1 0) nm = -1 := by rw [efi]; exact hf
  obtain ⟨f0, e0⟩ := Int.eq_ofNat_of_zero_le (show 0 ≤ fi by omega)
  subst e0
  have hp : ¬ Z 5 (48 * a + f0) = -1 := by
    have q := zf_x (Z := Z) (a := a) (n := nm) (by rw [← hv]; exact hf')
    rw [← hv, efi, Int.toNat_natCast] at q
    omega
  have hn25 : nm ≤ 25 := (zf_x (Z := Z) (a := a) (n := nm) (by rw [← hv]; exact hf')).2.2
  have kd0 := K.kd (f := f0) (by omega)
  obtain ⟨fd1, fd2⟩ := f_div K (f := f0) (by omega)
  by_cases e6 : Z 6 (48 * a + f0) = 0
  · have eB : bz (¬ Z 5 (48 * a + f0) = -1 ∧ ¬ Z 6 (48 * a + f0) = 0) = 0 := bz_0.mpr (fun z => z.2 e6)
    have eS : (0 : Int) = if Z 6 (48 * a + f0) = 0 then 0 else 32 := by rw [if_pos e6]
    refine AW.iload dL_isStep_127 rfl ?_
    refine AW.if_neT (tgt := 320) dL_isStep_129 rfl (by omega) ?_
    refine AW.iload dL_isStep_320 rfl ?_
    refine AW.iconst dL_isStep_322 (by decide) ?_
    refine AW.icmp_neT (tgt := 478) dL_isStep_323 rfl (by omega) ?_
    refine AW.iload dL_isStep_478 rfl ?_
    refine AW.if_ltF (tgt := 500) dL_isStep_480 rfl (by omega) ?_
    refine AW.aload_n dL_isStep_483 rfl ?_
    refine AW.aload dL_isStep_484 rfl ?_
    refine AW.iconst dL_isStep_486 (by decide) ?_
    refine AW.aldIE dL_isStep_487 J.T.a4 (by omega) (by omega) (by exact V.s.g0.trans hv) ?_
    refine AW.iload dL_isStep_488 rfl ?_
    refine AW.callS (as := [vq _, vi _, vi _]) dL_isStep_490 rfl rfl rfl okL_isNeeded lkL_103 rfl rfl rfl (leb (by omega)) (leb (by omega)) rfl (kL_isNd J.T V.s K (v := a) (f := f0) (by omega) (by omega) (AW.k1 ?_))
    refine AW.top (y := 0) eB ?_
    refine AW.if_eqT (tgt := 500) dL_isStep_493 rfl (by decide) ?_
    refine AW.iconst dL_isStep_500 (by decide) ?_
    refine AW.istore dL_isStep_501 rfl ?_
    refine AW.iload dL_isStep_503 rfl ?_
    refine AW.iconst dL_isStep_505 (by decide) ?_
    refine AW.icmp_neT (tgt := 644) dL_isStep_506 rfl (by omega) ?_
    refine AW.iload dL_isStep_644 rfl ?_
    refine AW.iconst dL_isStep_646 (by decide) ?_
    refine AW.icmp_neT (tgt := 912) dL_isStep_647 rfl (by omega) ?_
    refine AW.iload dL_isStep_912 rfl ?_
    refine AW.pcs (pc2 := 914) rfl ?_
    refine AW.iconst dL_isStep_914 (by decide) ?_
    refine AW.icmp_neT (tgt := 1213) dL_isStep_915 rfl (by omega) ?_
    refine AW.iload dL_isStep_1213 rfl ?_
    refine AW.if_geT (tgt := 1224) dL_isStep_1215 rfl (by omega) ?_
    refine AW.iload dL_isStep_1224 rfl ?_
    refine AW.iconst dL_isStep_1226 (by decide) ?_
    refine AW.icmp_eqT (tgt := 1235) dL_isStep_1227 rfl (by omega) ?_
    refine AW.iconst dL_isStep_1235 (by decide) ?_
    refine AW.goto (tgt := 1240) dL_isStep_1236 rfl ?_
    refine AW.istore dL_isStep_1240 rfl ?_
    refine AW.iload dL_isStep_1242 rfl ?_
    refine AW.if_ltF (tgt := 1312) dL_isStep_1244 rfl (by omega) ?_
    refine AW.aload_n dL_isStep_1247 rfl ?_
    refine AW.aload_n dL_isStep_1248 rfl ?_
    refine AW.aload dL_isStep_1249 rfl ?_
    refine AW.iload dL_isStep_1251 rfl ?_
    refine AW.iload dL_isStep_1253 rfl ?_
    refine AW.iconst dL_isStep_1255 (by decide) ?_
    refine AW.iconst dL_isStep_1256 (by decide) ?_
    refine AW.callS (as := [vq _, vq _, vq _, vi _, vi _, vi _, vi _]) dL_isStep_1257 rfl rfl rfl okL_begins lkL_141 rfl rfl rfl (leb (by omega)) (leb (by omega)) rfl (kL_begins (K := fun _ => 0) (d := a + 1) J.T V.s (by omega) (by omega) (by omega) (by omega) (by omega) (by omega) (by omega) (fun g1 F1 C1 => (AW.k0 ?_)))
    have T1 := F1.1.T J.T
    refine AW.iload dL_isStep_1260 rfl ?_
    refine AW.iconst dL_isStep_1262 (by decide) ?_
    refine AW.icmp_neF (tgt := 1277) dL_isStep_1263 rfl (by omega) ?_
    refine AW.aload_n dL_isStep_1266 rfl ?_
    refine AW.pcs (pc2 := 1267) rfl ?_
    refine AW.aload dL_isStep_1267 rfl ?_
    refine AW.iload dL_isStep_1269 rfl ?_
    refine AW.callS (as := [vq _, vq _, vi _]) dL_isStep_1271 rfl rfl rfl okL_goes lkL_155 rfl rfl rfl (leb (by omega)) (leb (by omega)) rfl (kL_goes T1 C1 (by omega) (by omega) (fun g2 F2 C2 => (AW.k0 ?_)))
    refine AW.goto (tgt := 1312) dL_isStep_1274 rfl ?_
    refine AW.aload_n dL_isStep_1312 rfl ?_
    refine AW.iload dL_isStep_1313 rfl ?_
    refine AW.iconst dL_isStep_1315 (by decide) ?_
    refine AW.iload dL_isStep_1316 rfl ?_
    refine AW.iconst dL_isStep_1318 (by decide) ?_
    refine AW.iconst dL_isStep_1319 (by decide) ?_
    refine AW.iconst dL_isStep_1320 (by decide) ?_
    refine AW.callSH (as := [vq _, vi _, vi _, vi _, vi _, vi _, vi _]) dL_isStep_1321 rfl rfl rfl okL_does lkL_149 rfl rfl rfl (by omega) (by omega) rfl (q_dro (J.fl (F1.tr F2).1) (fun z => absurd z hf') (fun _ g5 S5 I5 Fr5 => (AW.k1 ?_)))
    refine AW.iload dL_isStep_1324 rfl ?_
    refine AW.icmp_neF (tgt := 1333) dL_isStep_1326 rfl (by rfl) ?_
    refine AW.iconst dL_isStep_1329 (by decide) ?_
    refine AW.goto (tgt := 1334) dL_isStep_1330 rfl ?_
    refine AW.zret dL_isStep_1334 rfl ?_ ?_
    · omega
    have q := g_dro J V (F1.tr F2) hv ha (by omega) efi (by omega) C2 (fun i hi => rfl) (by omega) S5 I5 Fr5
    exact k _ _ q.1 q.2
  · have eB : bz (¬ Z 5 (48 * a + f0) = -1 ∧ ¬ Z 6 (48 * a + f0) = 0) = 1 := bz_1.mpr ⟨hp, e6⟩
    have eS : (32 : Int) = if Z 6 (48 * a + f0) = 0 then 0 else 32 := by rw [if_neg e6]
    refine AW.iload dL_isStep_127 rfl ?_
    refine AW.if_neT (tgt := 320) dL_isStep_129 rfl (by omega) ?_
    refine AW.iload dL_isStep_320 rfl ?_
    refine AW.iconst dL_isStep_322 (by decide) ?_
    refine AW.icmp_neT (tgt := 478) dL_isStep_323 rfl (by omega) ?_
    refine AW.iload dL_isStep_478 rfl ?_
    refine AW.if_ltF (tgt := 500) dL_isStep_480 rfl (by omega) ?_
    refine AW.aload_n dL_isStep_483 rfl ?_
    refine AW.aload dL_isStep_484 rfl ?_
    refine AW.iconst dL_isStep_486 (by decide) ?_
    refine AW.aldIE dL_isStep_487 J.T.a4 (by omega) (by omega) (by exact V.s.g0.trans hv) ?_
    refine AW.iload dL_isStep_488 rfl ?_
    refine AW.callS (as := [vq _, vi _, vi _]) dL_isStep_490 rfl rfl rfl okL_isNeeded lkL_103 rfl rfl rfl (leb (by omega)) (leb (by omega)) rfl (kL_isNd J.T V.s K (v := a) (f := f0) (by omega) (by omega) (AW.k1 ?_))
    refine AW.top (y := 1) eB ?_
    refine AW.if_eqF (tgt := 500) dL_isStep_493 rfl (by decide) ?_
    refine AW.iconst dL_isStep_496 (by decide) ?_
    refine AW.goto (tgt := 501) dL_isStep_497 rfl ?_
    refine AW.istore dL_isStep_501 rfl ?_
    refine AW.iload dL_isStep_503 rfl ?_
    refine AW.iconst dL_isStep_505 (by decide) ?_
    refine AW.icmp_neT (tgt := 644) dL_isStep_506 rfl (by omega) ?_
    refine AW.iload dL_isStep_644 rfl ?_
    refine AW.iconst dL_isStep_646 (by decide) ?_
    refine AW.icmp_neT (tgt := 912) dL_isStep_647 rfl (by omega) ?_
    refine AW.pcs (pc2 := 912) rfl ?_
    refine AW.iload dL_isStep_912 rfl ?_
    refine AW.iconst dL_isStep_914 (by decide) ?_
    refine AW.icmp_neT (tgt := 1213) dL_isStep_915 rfl (by omega) ?_
    refine AW.iload dL_isStep_1213 rfl ?_
    refine AW.if_geT (tgt := 1224) dL_isStep_1215 rfl (by omega) ?_
    refine AW.iload dL_isStep_1224 rfl ?_
    refine AW.iconst dL_isStep_1226 (by decide) ?_
    refine AW.icmp_eqT (tgt := 1235) dL_isStep_1227 rfl (by omega) ?_
    refine AW.iconst dL_isStep_1235 (by decide) ?_
    refine AW.goto (tgt := 1240) dL_isStep_1236 rfl ?_
    refine AW.istore dL_isStep_1240 rfl ?_
    refine AW.iload dL_isStep_1242 rfl ?_
    refine AW.if_ltF (tgt := 1312) dL_isStep_1244 rfl (by omega) ?_
    refine AW.aload_n dL_isStep_1247 rfl ?_
    refine AW.aload_n dL_isStep_1248 rfl ?_
    refine AW.aload dL_isStep_1249 rfl ?_
    refine AW.iload dL_isStep_1251 rfl ?_
    refine AW.iload dL_isStep_1253 rfl ?_
    refine AW.iconst dL_isStep_1255 (by decide) ?_
    refine AW.iconst dL_isStep_1256 (by decide) ?_
    refine AW.callS (as := [vq _, vq _, vq _, vi _, vi _, vi _, vi _]) dL_isStep_1257 rfl rfl rfl okL_begins lkL_141 rfl rfl rfl (leb (by omega)) (leb (by omega)) rfl (kL_begins (K := fun _ => 0) (d := a + 1) J.T V.s (by omega) (by omega) (by omega) (by omega) (by omega) (by omega) (by omega) (fun g1 F1 C1 => (AW.k0 ?_)))
    have T1 := F1.1.T J.T
    refine AW.iload dL_isStep_1260 rfl ?_
    refine AW.iconst dL_isStep_1262 (by decide) ?_
    refine AW.icmp_neF (tgt := 1277) dL_isStep_1263 rfl (by omega) ?_
    refine AW.pcs (pc2 := 1266) rfl ?_
    refine AW.aload_n dL_isStep_1266 rfl ?_
    refine AW.aload dL_isStep_1267 rfl ?_
    refine AW.iload dL_isStep_1269 rfl ?_
    refine AW.callS (as := [vq _, vq _, vi _]) dL_isStep_1271 rfl rfl rfl okL_goes lkL_155 rfl rfl rfl (leb (by omega)) (leb (by omega)) rfl (kL_goes T1 C1 (by omega) (by omega) (fun g2 F2 C2 => (AW.k0 ?_)))
    refine AW.goto (tgt := 1312) dL_isStep_1274 rfl ?_
    refine AW.aload_n dL_isStep_1312 rfl ?_
    refine AW.iload dL_isStep_1313 rfl ?_
    refine AW.iconst dL_isStep_1315 (by decide) ?_
    refine AW.iload dL_isStep_1316 rfl ?_
    refine AW.iconst dL_isStep_1318 (by decide) ?_
    refine AW.iconst dL_isStep_1319 (by decide) ?_
    refine AW.iconst dL_isStep_1320 (by decide) ?_
    refine AW.callSH (as := [vq _, vi _, vi _, vi _, vi _, vi _, vi _]) dL_isStep_1321 rfl rfl rfl okL_does lkL_149 rfl rfl rfl (by omega) (by omega) rfl (q_dro (J.fl (F1.tr F2).1) (fun z => absurd z hf') (fun _ g5 S5 I5 Fr5 => (AW.k1 ?_)))
    refine AW.iload dL_isStep_1324 rfl ?_
    refine AW.icmp_neF (tgt := 1333) dL_isStep_1326 rfl (by rfl) ?_
    refine AW.iconst dL_isStep_1329 (by decide) ?_
    refine AW.goto (tgt := 1334) dL_isStep_1330 rfl ?_
    refine AW.zret dL_isStep_1334 rfl ?_ ?_
    · omega
    have q := g_dro J V (F1.tr F2) hv ha (by omega) efi (by omega) C2 (fun i hi => rfl) (by omega) S5 I5 Fr5
    exact k _ _ q.1 q.2
set_option maxHeartbeats 4000000 in
theorem is_tog {one two three nm ot th fi se : Int} (J : IV L h Z c b) (V : JV h Z) (hv : Z 1 0 = (a : Int)) (ha : a ≤ 9) (h8 : Z 2 0 ≤ 8) (h1 : 0 ≤ one ∧ one < 10000) (h2 : 0 ≤ two ∧ two < 10000) (h3 : 0 ≤ three ∧ three < 10000) (hnm : 0 ≤ nm ∧ nm ≤ 5 ∨ nm = 26) (hot : 0 ≤ ot ∧ ot ≤ 6 ∨ ot = 26) (hth : 0 ≤ th ∧ th ≤ 6 ∨ th = 26) (efi : zfind Z 0 (Z 1 0) nm = fi) (ese : zfind Z 0 (Z 1 0) ot = se) (k : ∀ g Y, IV L g Y c b → JV g Y → Q g (.inl (some (vi 1)))) : AW mL_isStep fL_isStep loL_isStep 10 60 Q 10 60 127 h (lst 6 one two three nm ot th fi se) [] := by
  have K := J.K
  have b1 := K.b1
  have b2 := K.b2
  have zfi := zf_r K (a := Z 1 0) (n := nm)
  have zse := zf_r K (a := Z 1 0) (n := ot)
  rw [efi] at zfi
  rw [ese] at zse
  obtain ⟨m, hm⟩ := Int.eq_ofNat_of_zero_le b2.1
  by_cases hf : fi = -1
  · refine AW.iload dL_isStep_127 rfl ?_
    refine AW.if_neT (tgt := 320) dL_isStep_129 rfl (by omega) ?_
    refine AW.iload dL_isStep_320 rfl ?_
    refine AW.iconst dL_isStep_322 (by decide) ?_
    refine AW.icmp_neT (tgt := 478) dL_isStep_323 rfl (by omega) ?_
    refine AW.iload dL_isStep_478 rfl ?_
    refine AW.if_ltT (tgt := 500) dL_isStep_480 rfl (by omega) ?_
    refine AW.iconst dL_isStep_500 (by decide) ?_
    refine AW.istore dL_isStep_501 rfl ?_
    refine AW.iload dL_isStep_503 rfl ?_
    refine AW.iconst dL_isStep_505 (by decide) ?_
    refine AW.icmp_neT (tgt := 644) dL_isStep_506 rfl (by omega) ?_
    refine AW.iload dL_isStep_644 rfl ?_
    refine AW.iconst dL_isStep_646 (by decide) ?_
    refine AW.icmp_neT (tgt := 912) dL_isStep_647 rfl (by omega) ?_
    refine AW.iload dL_isStep_912 rfl ?_
    refine AW.iconst dL_isStep_914 (by decide) ?_
    refine AW.icmp_neT (tgt := 1213) dL_isStep_915 rfl (by omega) ?_
    refine AW.iload dL_isStep_1213 rfl ?_
    refine AW.if_geF (tgt := 1224) dL_isStep_1215 rfl (by omega) ?_
    refine AW.sipush dL_isStep_1218 sp_m300 (by decide) ?_
    refine AW.goto (tgt := 1240) dL_isStep_1221 rfl ?_
    refine AW.istore dL_isStep_1240 rfl ?_
    refine AW.pcs (pc2 := 1242) rfl ?_
    refine AW.iload dL_isStep_1242 rfl ?_
    refine AW.if_ltT (tgt := 1312) dL_isStep_1244 rfl (by omega) ?_
    refine AW.aload_n dL_isStep_1312 rfl ?_
    refine AW.iload dL_isStep_1313 rfl ?_
    refine AW.iconst dL_isStep_1315 (by decide) ?_
    refine AW.iload dL_isStep_1316 rfl ?_
    refine AW.iconst dL_isStep_1318 (by decide) ?_
    refine AW.iconst dL_isStep_1319 (by decide) ?_
    refine AW.iconst dL_isStep_1320 (by decide) ?_
    refine AW.callSH (as := [vq _, vi _, vi _, vi _, vi _, vi _, vi _]) dL_isStep_1321 rfl rfl rfl okL_does lkL_149 rfl rfl rfl (by omega) (by omega) rfl (q_tog J (fun _ => (AW.k1 ?_)) (fun z => absurd (efi.trans hf) z))
    refine AW.iload dL_isStep_1324 rfl ?_
    refine AW.icmp_neF (tgt := 1333) dL_isStep_1326 rfl (by rfl) ?_
    refine AW.iconst dL_isStep_1329 (by decide) ?_
    refine AW.goto (tgt := 1334) dL_isStep_1330 rfl ?_
    refine AW.zret dL_isStep_1334 rfl ?_ ?_
    · omega
    exact k _ _ J V
  have hf' : ¬ zfind Z 0 (Z 1 0) nm = -1 := by rw [efi]; exact hf
  obtain ⟨f0, e0⟩ := Int.eq_ofNat_of_zero_le (show 0 ≤ fi by omega)
  subst e0
  have hp : ¬ Z 5 (48 * a + f0) = -1 := by
    have q := zf_x (Z := Z) (a := a) (n := nm) (by rw [← hv]; exact hf')
    rw [← hv, efi, Int.toNat_natCast] at q
    omega
  have hn25 : nm ≤ 25 := (zf_x (Z := Z) (a := a) (n := nm) (by rw [← hv]; exact hf')).2.2
  have kd0 := K.kd (f := f0) (by omega)
  obtain ⟨fd1, fd2⟩ := f_div K (f := f0) (by omega)
  by_cases e6 : Z 6 (48 * a + f0) = 0
  · have eB : bz (¬ Z 5 (48 * a + f0) = -1 ∧ ¬ Z 6 (48 * a + f0) = 0) = 0 := bz_0.mpr (fun z => z.2 e6)
    have eS : (0 : Int) = if Z 6 (48 * a + f0) = 0 then 0 else 32 := by rw [if_pos e6]
    have eR : bz (Z 6 (48 * Z 1 0 + zfind Z 0 (Z 1 0) nm).toNat = 0) = 1 := by
      rw [efi, hv, show (48 * (a : Int) + (f0 : Int)).toNat = 48 * a + f0 by omega]
      exact bz_1.mpr e6
    refine AW.iload dL_isStep_127 rfl ?_
    refine AW.if_neT (tgt := 320) dL_isStep_129 rfl (by omega) ?_
    refine AW.iload dL_isStep_320 rfl ?_
    refine AW.iconst dL_isStep_322 (by decide) ?_
    refine AW.icmp_neT (tgt := 478) dL_isStep_323 rfl (by omega) ?_
    refine AW.iload dL_isStep_478 rfl ?_
    refine AW.if_ltF (tgt := 500) dL_isStep_480 rfl (by omega) ?_
    refine AW.aload_n dL_isStep_483 rfl ?_
    refine AW.aload dL_isStep_484 rfl ?_
    refine AW.iconst dL_isStep_486 (by decide) ?_
    refine AW.aldIE dL_isStep_487 J.T.a4 (by omega) (by omega) (by exact V.s.g0.trans hv) ?_
    refine AW.iload dL_isStep_488 rfl ?_
    refine AW.callS (as := [vq _, vi _, vi _]) dL_isStep_490 rfl rfl rfl okL_isNeeded lkL_103 rfl rfl rfl (leb (by omega)) (leb (by omega)) rfl (kL_isNd J.T V.s K (v := a) (f := f0) (by omega) (by omega) (AW.k1 ?_))
    refine AW.top (y := 0) eB ?_
    refine AW.if_eqT (tgt := 500) dL_isStep_493 rfl (by decide) ?_
    refine AW.iconst dL_isStep_500 (by decide) ?_
    refine AW.istore dL_isStep_501 rfl ?_
    refine AW.iload dL_isStep_503 rfl ?_
    refine AW.iconst dL_isStep_505 (by decide) ?_
    refine AW.icmp_neT (tgt := 644) dL_isStep_506 rfl (by omega) ?_
    refine AW.iload dL_isStep_644 rfl ?_
    refine AW.iconst dL_isStep_646 (by decide) ?_
    refine AW.icmp_neT (tgt := 912) dL_isStep_647 rfl (by omega) ?_
    refine AW.iload dL_isStep_912 rfl ?_
    refine AW.pcs (pc2 := 914) rfl ?_
    refine AW.iconst dL_isStep_914 (by decide) ?_
    refine AW.icmp_neT (tgt := 1213) dL_isStep_915 rfl (by omega) ?_
    refine AW.iload dL_isStep_1213 rfl ?_
    refine AW.if_geT (tgt := 1224) dL_isStep_1215 rfl (by omega) ?_
    refine AW.iload dL_isStep_1224 rfl ?_
    refine AW.iconst dL_isStep_1226 (by decide) ?_
    refine AW.icmp_eqF (tgt := 1235) dL_isStep_1227 rfl (by omega) ?_
    refine AW.iload dL_isStep_1230 rfl ?_
    refine AW.if_neF (tgt := 1239) dL_isStep_1232 rfl (by omega) ?_
    refine AW.iconst dL_isStep_1235 (by decide) ?_
    refine AW.goto (tgt := 1240) dL_isStep_1236 rfl ?_
    refine AW.istore dL_isStep_1240 rfl ?_
    refine AW.iload dL_isStep_1242 rfl ?_
    refine AW.if_ltF (tgt := 1312) dL_isStep_1244 rfl (by omega) ?_
    refine AW.aload_n dL_isStep_1247 rfl ?_
    refine AW.aload_n dL_isStep_1248 rfl ?_
    refine AW.aload dL_isStep_1249 rfl ?_
    refine AW.iload dL_isStep_1251 rfl ?_
    refine AW.iload dL_isStep_1253 rfl ?_
    refine AW.iconst dL_isStep_1255 (by decide) ?_
    refine AW.iconst dL_isStep_1256 (by decide) ?_
    refine AW.callS (as := [vq _, vq _, vq _, vi _, vi _, vi _, vi _]) dL_isStep_1257 rfl rfl rfl okL_begins lkL_141 rfl rfl rfl (leb (by omega)) (leb (by omega)) rfl (kL_begins (K := fun _ => 0) (d := a + 1) J.T V.s (by omega) (by omega) (by omega) (by omega) (by omega) (by omega) (by omega) (fun g1 F1 C1 => (AW.k0 ?_)))
    refine AW.iload dL_isStep_1260 rfl ?_
    refine AW.iconst dL_isStep_1262 (by decide) ?_
    refine AW.pcs (pc2 := 1263) rfl ?_
    refine AW.icmp_neT (tgt := 1277) dL_isStep_1263 rfl (by omega) ?_
    have T1 := F1.1.T J.T
    refine AW.aload_n dL_isStep_1277 rfl ?_
    refine AW.aload dL_isStep_1278 rfl ?_
    refine AW.iconst dL_isStep_1280 (by decide) ?_
    refine AW.aldIE dL_isStep_1281 T1.a4 (by omega) (by omega) (by exact C1.g0) ?_
    refine AW.dup2 dL_isStep_1282 rfl rfl ?_
    refine AW.aldLE dL_isStep_1283 T1.a1 (by omega) (by omega) (by (repeat first | apply hI_n1 rfl | apply hI_n3 rfl | apply hI_e (by omega) | apply hI_m (by omega)); exact rfl) ?_
    refine AW.ldc2I (32) dL_isStep_1284 lkL_153 (by decide) ?_
    refine AW.bipush dL_isStep_1287 bp_6 (by decide) ?_
    refine AW.iload dL_isStep_1289 rfl ?_
    refine AW.imulB dL_isStep_1291 (by omega) ?_
    refine AW.lshl dL_isStep_1292 (by omega) ?_
    refine AW.lxor dL_isStep_1293 ?_
    refine AW.astL dL_isStep_1294 T1.a1 (by omega) (by omega) ?_
    rw [Int.toNat_natCast]
    refine AW.gen (P := fun g => FG h g ∧ LC g Z (a + 1) (fun i => if i = f0 then (if 31 < zdg Z a i then zdg Z a i - 32 else zdg Z a i + 32) else zdg Z a i) (6 + 8 * ((f0 : Int) + 1 + 16 * (-1 + 1)) + 524288 * 0) (Z 2 0) (fun _ => 0)) ⟨F1.w1, C1.dig (fun i hi => (stt_xor (x := hL g1 (la 1) (a + 1)) (k := f0) (by omega) hi).trans (by rw [C1.2.2.1 i hi]; rfl))⟩ (fun g3 ⟨F3, C3⟩ => ?_)
    have T3 := F3.1.T J.T
    refine AW.aload_n dL_isStep_1295 rfl ?_
    refine AW.aload dL_isStep_1296 rfl ?_
    refine AW.iconst dL_isStep_1298 (by decide) ?_
    refine AW.aldIE dL_isStep_1299 T3.a4 (by omega) (by omega) (by exact C3.g0) ?_
    refine AW.dup2 dL_isStep_1300 rfl rfl ?_
    refine AW.aldIE dL_isStep_1301 T3.a2 (by omega) (by omega) (by exact hIx (by omega) C3.w) ?_
    refine AW.sipush dL_isStep_1302 sp_2048 (by decide) ?_
    refine AW.iload dL_isStep_1305 rfl ?_
    refine AW.iconst dL_isStep_1307 (by decide) ?_
    refine AW.iaddB dL_isStep_1308 (by omega) ?_
    refine AW.pcs (pc2 := 1309) rfl ?_
    refine AW.imulB dL_isStep_1309 (by omega) ?_
    refine AW.iaddB dL_isStep_1310 (by omega) ?_
    refine AW.astI dL_isStep_1311 T3.a2 (by omega) (by omega) ?_
    rw [Int.toNat_natCast]
    refine AW.gen (P := fun g => FG h g ∧ LC g Z (a + 1) (fun i => if i = f0 then (if 31 < zdg Z a i then zdg Z a i - 32 else zdg Z a i + 32) else zdg Z a i) (6 + 8 * ((f0 : Int) + 1 + 16 * (-1 + 1)) + 524288 * 0 + 2048 * ((f0 : Int) + 1)) (Z 2 0) (fun _ => 0)) ⟨F3.w2, C3.wrd⟩ (fun g4 ⟨F4, C4⟩ => ?_)
    refine AW.aload_n dL_isStep_1312 rfl ?_
    refine AW.iload dL_isStep_1313 rfl ?_
    refine AW.iconst dL_isStep_1315 (by decide) ?_
    refine AW.iload dL_isStep_1316 rfl ?_
    refine AW.iconst dL_isStep_1318 (by decide) ?_
    refine AW.iconst dL_isStep_1319 (by decide) ?_
    refine AW.iconst dL_isStep_1320 (by decide) ?_
    refine AW.callSH (as := [vq _, vi _, vi _, vi _, vi _, vi _, vi _]) dL_isStep_1321 rfl rfl rfl okL_does lkL_149 rfl rfl rfl (by omega) (by omega) rfl (q_tog (J.fl F4.1) (fun z => absurd z hf') (fun _ g5 S5 I5 Fr5 => (AW.k1 ?_)))
    refine AW.iload dL_isStep_1324 rfl ?_
    refine AW.icmp_neF (tgt := 1333) dL_isStep_1326 rfl (by exact eR) ?_
    refine AW.iconst dL_isStep_1329 (by decide) ?_
    refine AW.goto (tgt := 1334) dL_isStep_1330 rfl ?_
    refine AW.zret dL_isStep_1334 rfl ?_ ?_
    · omega
    have q := g_tog J V F4 hv ha (by omega) efi (by omega) hp C4 (fun i hi => rfl) (by omega) S5 I5 Fr5
    exact k _ _ q.1 q.2
  · have eB : bz (¬ Z 5 (48 * a + f0) = -1 ∧ ¬ Z 6 (48 * a + f0) = 0) = 1 := bz_1.mpr ⟨hp, e6⟩
    have eS : (32 : Int) = if Z 6 (48 * a + f0) = 0 then 0 else 32 := by rw [if_neg e6]
    have eR : bz (Z 6 (48 * Z 1 0 + zfind Z 0 (Z 1 0) nm).toNat = 0) = 0 := by
      rw [efi, hv, show (48 * (a : Int) + (f0 : Int)).toNat = 48 * a + f0 by omega]
      exact bz_0.mpr e6
    refine AW.iload dL_isStep_127 rfl ?_
    refine AW.if_neT (tgt := 320) dL_isStep_129 rfl (by omega) ?_
    refine AW.iload dL_isStep_320 rfl ?_
    refine AW.iconst dL_isStep_322 (by decide) ?_
    refine AW.icmp_neT (tgt := 478) dL_isStep_323 rfl (by omega) ?_
    refine AW.iload dL_isStep_478 rfl ?_
    refine AW.if_ltF (tgt := 500) dL_isStep_480 rfl (by omega) ?_
    refine AW.aload_n dL_isStep_483 rfl ?_
    refine AW.aload dL_isStep_484 rfl ?_
    refine AW.iconst dL_isStep_486 (by decide) ?_
    refine AW.aldIE dL_isStep_487 J.T.a4 (by omega) (by omega) (by exact V.s.g0.trans hv) ?_
    refine AW.iload dL_isStep_488 rfl ?_
    refine AW.callS (as := [vq _, vi _, vi _]) dL_isStep_490 rfl rfl rfl okL_isNeeded lkL_103 rfl rfl rfl (leb (by omega)) (leb (by omega)) rfl (kL_isNd J.T V.s K (v := a) (f := f0) (by omega) (by omega) (AW.k1 ?_))
    refine AW.top (y := 1) eB ?_
    refine AW.if_eqF (tgt := 500) dL_isStep_493 rfl (by decide) ?_
    refine AW.iconst dL_isStep_496 (by decide) ?_
    refine AW.goto (tgt := 501) dL_isStep_497 rfl ?_
    refine AW.istore dL_isStep_501 rfl ?_
    refine AW.iload dL_isStep_503 rfl ?_
    refine AW.iconst dL_isStep_505 (by decide) ?_
    refine AW.icmp_neT (tgt := 644) dL_isStep_506 rfl (by omega) ?_
    refine AW.iload dL_isStep_644 rfl ?_
    refine AW.iconst dL_isStep_646 (by decide) ?_
    refine AW.icmp_neT (tgt := 912) dL_isStep_647 rfl (by omega) ?_
    refine AW.pcs (pc2 := 912) rfl ?_
    refine AW.iload dL_isStep_912 rfl ?_
    refine AW.iconst dL_isStep_914 (by decide) ?_
    refine AW.icmp_neT (tgt := 1213) dL_isStep_915 rfl (by omega) ?_
    refine AW.iload dL_isStep_1213 rfl ?_
    refine AW.if_geT (tgt := 1224) dL_isStep_1215 rfl (by omega) ?_
    refine AW.iload dL_isStep_1224 rfl ?_
    refine AW.iconst dL_isStep_1226 (by decide) ?_
    refine AW.icmp_eqF (tgt := 1235) dL_isStep_1227 rfl (by omega) ?_
    refine AW.iload dL_isStep_1230 rfl ?_
    refine AW.if_neT (tgt := 1239) dL_isStep_1232 rfl (by omega) ?_
    refine AW.iconst dL_isStep_1239 (by decide) ?_
    refine AW.istore dL_isStep_1240 rfl ?_
    refine AW.iload dL_isStep_1242 rfl ?_
    refine AW.if_ltF (tgt := 1312) dL_isStep_1244 rfl (by omega) ?_
    refine AW.aload_n dL_isStep_1247 rfl ?_
    refine AW.aload_n dL_isStep_1248 rfl ?_
    refine AW.aload dL_isStep_1249 rfl ?_
    refine AW.iload dL_isStep_1251 rfl ?_
    refine AW.iload dL_isStep_1253 rfl ?_
    refine AW.iconst dL_isStep_1255 (by decide) ?_
    refine AW.iconst dL_isStep_1256 (by decide) ?_
    refine AW.callS (as := [vq _, vq _, vq _, vi _, vi _, vi _, vi _]) dL_isStep_1257 rfl rfl rfl okL_begins lkL_141 rfl rfl rfl (leb (by omega)) (leb (by omega)) rfl (kL_begins (K := fun _ => 0) (d := a + 1) J.T V.s (by omega) (by omega) (by omega) (by omega) (by omega) (by omega) (by omega) (fun g1 F1 C1 => (AW.k0 ?_)))
    refine AW.iload dL_isStep_1260 rfl ?_
    refine AW.iconst dL_isStep_1262 (by decide) ?_
    refine AW.pcs (pc2 := 1263) rfl ?_
    refine AW.icmp_neT (tgt := 1277) dL_isStep_1263 rfl (by omega) ?_
    have T1 := F1.1.T J.T
    refine AW.aload_n dL_isStep_1277 rfl ?_
    refine AW.aload dL_isStep_1278 rfl ?_
    refine AW.iconst dL_isStep_1280 (by decide) ?_
    refine AW.aldIE dL_isStep_1281 T1.a4 (by omega) (by omega) (by exact C1.g0) ?_
    refine AW.dup2 dL_isStep_1282 rfl rfl ?_
    refine AW.aldLE dL_isStep_1283 T1.a1 (by omega) (by omega) (by (repeat first | apply hI_n1 rfl | apply hI_n3 rfl | apply hI_e (by omega) | apply hI_m (by omega)); exact rfl) ?_
    refine AW.ldc2I (32) dL_isStep_1284 lkL_153 (by decide) ?_
    refine AW.bipush dL_isStep_1287 bp_6 (by decide) ?_
    refine AW.iload dL_isStep_1289 rfl ?_
    refine AW.imulB dL_isStep_1291 (by omega) ?_
    refine AW.lshl dL_isStep_1292 (by omega) ?_
    refine AW.lxor dL_isStep_1293 ?_
    refine AW.astL dL_isStep_1294 T1.a1 (by omega) (by omega) ?_
    rw [Int.toNat_natCast]
    refine AW.gen (P := fun g => FG h g ∧ LC g Z (a + 1) (fun i => if i = f0 then (if 31 < zdg Z a i then zdg Z a i - 32 else zdg Z a i + 32) else zdg Z a i) (6 + 8 * ((f0 : Int) + 1 + 16 * (-1 + 1)) + 524288 * 0) (Z 2 0) (fun _ => 0)) ⟨F1.w1, C1.dig (fun i hi => (stt_xor (x := hL g1 (la 1) (a + 1)) (k := f0) (by omega) hi).trans (by rw [C1.2.2.1 i hi]; rfl))⟩ (fun g3 ⟨F3, C3⟩ => ?_)
    have T3 := F3.1.T J.T
    refine AW.aload_n dL_isStep_1295 rfl ?_
    refine AW.aload dL_isStep_1296 rfl ?_
    refine AW.iconst dL_isStep_1298 (by decide) ?_
    refine AW.aldIE dL_isStep_1299 T3.a4 (by omega) (by omega) (by exact C3.g0) ?_
    refine AW.dup2 dL_isStep_1300 rfl rfl ?_
    refine AW.aldIE dL_isStep_1301 T3.a2 (by omega) (by omega) (by exact hIx (by omega) C3.w) ?_
    refine AW.sipush dL_isStep_1302 sp_2048 (by decide) ?_
    refine AW.iload dL_isStep_1305 rfl ?_
    refine AW.iconst dL_isStep_1307 (by decide) ?_
    refine AW.iaddB dL_isStep_1308 (by omega) ?_
    refine AW.pcs (pc2 := 1309) rfl ?_
    refine AW.imulB dL_isStep_1309 (by omega) ?_
    refine AW.iaddB dL_isStep_1310 (by omega) ?_
    refine AW.astI dL_isStep_1311 T3.a2 (by omega) (by omega) ?_
    rw [Int.toNat_natCast]
    refine AW.gen (P := fun g => FG h g ∧ LC g Z (a + 1) (fun i => if i = f0 then (if 31 < zdg Z a i then zdg Z a i - 32 else zdg Z a i + 32) else zdg Z a i) (6 + 8 * ((f0 : Int) + 1 + 16 * (-1 + 1)) + 524288 * 0 + 2048 * ((f0 : Int) + 1)) (Z 2 0) (fun _ => 0)) ⟨F3.w2, C3.wrd⟩ (fun g4 ⟨F4, C4⟩ => ?_)
    refine AW.aload_n dL_isStep_1312 rfl ?_
    refine AW.iload dL_isStep_1313 rfl ?_
    refine AW.iconst dL_isStep_1315 (by decide) ?_
    refine AW.iload dL_isStep_1316 rfl ?_
    refine AW.iconst dL_isStep_1318 (by decide) ?_
    refine AW.iconst dL_isStep_1319 (by decide) ?_
    refine AW.iconst dL_isStep_1320 (by decide) ?_
    refine AW.callSH (as := [vq _, vi _, vi _, vi _, vi _, vi _, vi _]) dL_isStep_1321 rfl rfl rfl okL_does lkL_149 rfl rfl rfl (by omega) (by omega) rfl (q_tog (J.fl F4.1) (fun z => absurd z hf') (fun _ g5 S5 I5 Fr5 => (AW.k1 ?_)))
    refine AW.iload dL_isStep_1324 rfl ?_
    refine AW.icmp_neF (tgt := 1333) dL_isStep_1326 rfl (by exact eR) ?_
    refine AW.iconst dL_isStep_1329 (by decide) ?_
    refine AW.goto (tgt := 1334) dL_isStep_1330 rfl ?_
    refine AW.zret dL_isStep_1334 rfl ?_ ?_
    · omega
    have q := g_tog J V F4 hv ha (by omega) efi (by omega) hp C4 (fun i hi => rfl) (by omega) S5 I5 Fr5
    exact k _ _ q.1 q.2
end D5

/-! ===== the law's doings: movers, rows ===== -/
section H2
variable {Q : AH → AO → Prop} {h g h1 G : AH} {Z Y : ZT} {c b L r n w : Nat} {mc ms bc bs : Nat}
theorem q_mov2 (J : IV L h Z c b) (v3 : Z 28 0 ≤ 3) {v x3 x4 x5 : Int} (hv : 0 ≤ v ∧ v ≤ Z 1 0) (k0 : ∀ g, SIM g (zMov Z 0 v) c → ZI (zMov Z 0 v) → Fr nMo h g → Q g (.inl (some (vi (Z 28 0))))) : AC mL_does fL_does loL_does 4 24 h [vr mF, vi 9, vi 0, vi v, vi x3, vi x4, vi x5] Q := by
  have s0 : (0 : Int) ≤ 0 ∧ (0 : Int) < Z 0 0 := ⟨by decide, by rw [J.z0]; decide⟩
  refine kL_does_mover J.F ?_
  have e : zcVer Z 0 v (Z 28 0 = 8) = 0 := cd2_z (fun z => z ⟨s0, hv⟩) (by omega)
  exact sX7_mover J.S (fun z => by rw [e] at z; cases z) (fun z => by rw [e] at z; cases z) (fun _ g S F => k0 g S (zi_mov J.I J.S e) F)
theorem q_row2 (J : IV L h Z c b) (v2 : Z 19 0 ≤ 4) (hc : c < 512) {v x3 x4 x5 : Int} (hv : 0 ≤ v ∧ v ≤ Z 1 0) (k0 : ∀ g, SIM g (zRow Z 0 v) (c + 1) → ZI (zRow Z 0 v) → Fr nMo h g → Q g (.inl (some (vi (Z 19 0))))) : AC mL_does fL_does loL_does 7 240 h [vr mF, vi 7, vi 0, vi v, vi x3, vi x4, vi x5] Q := by
  have s0 : (0 : Int) ≤ 0 ∧ (0 : Int) < Z 0 0 := ⟨by decide, by rw [J.z0]; decide⟩
  refine kL_does_row J.F ?_
  have e : zcVer Z 0 v (Z 19 0 = 20) = 0 := cd2_z (fun z => z ⟨s0, hv⟩) (by omega)
  exact sX7_row J.S J.I.2.1 hc (fun z => by rw [e] at z; cases z) (fun z => by rw [e] at z; cases z) (fun _ g S F => k0 g S (zi_row J.I J.S hc e) F)
theorem FM.mk {v : Int} (hm : n < 3) : FM n v h (sI (sI (sI (sI h (la 8) (3 * n) v) (la 8) (3 * n + 1) (-1)) (la 8) (3 * n + 2) 0) (la 4) 3 ((n : Int) + 1)) := by
  refine ⟨(((FL.rf.wI (Or.inr rfl)).wI (Or.inr rfl)).wI (Or.inr rfl)).wI (Or.inl rfl), ⟨fun i hi => ?_, ?_⟩, fun i hi => ?_, ?_, ?_, ?_⟩
  · rw [hI_sIla, if_neg (by omega), hI_sIla, if_neg (by omega), hI_sIla, if_neg (by omega), hI_sIla, if_neg (by omega)]
  · rw [hI_sIla, if_pos ⟨rfl, rfl⟩]
  · rw [hI_sIla, if_neg (by omega), hI_sIla, if_neg (by omega), hI_sIla, if_neg (by omega), hI_sIla, if_neg (by omega)]
  · rw [hI_sIla, if_neg (by omega), hI_sIla, if_neg (by omega), hI_sIla, if_neg (by omega), hI_sIla, if_pos ⟨rfl, rfl⟩]
  · rw [hI_sIla, if_neg (by omega), hI_sIla, if_neg (by omega), hI_sIla, if_pos ⟨rfl, rfl⟩]
  · rw [hI_sIla, if_neg (by omega), hI_sIla, if_pos ⟨rfl, rfl⟩]
set_option maxHeartbeats 2000000 in
theorem dn_mov {i wh o1 o2 o3 : Int} (J : IV L h Z c b) (V : JV h Z) (D : DRW wh o1 o2 o3) (hw : 27 ≤ wh ∧ wh < 29) (k : ∀ g Y c', c' ≤ c + 1 → IV L g Y c' b → JV g Y → Q g (.inl (some (vi 1)))) : AW mL_isDone fL_isDone loL_isDone 20 300 Q 20 300 45 h (ldn i wh o1 o2 o3) [] := by
  obtain ⟨d0, d1, d2, d3⟩ := D
  have b1 := J.K.b1
  have v3 := V.b3
  have s491 : ∀ v : Int, 0 ≤ v ∧ v ≤ Z 1 0 + 1 → AW mL_isDone fL_isDone loL_isDone 20 300 Q 20 300 491 h (ldn i wh o1 o2 o3) [vi v] := fun v hv => by
    by_cases e : v ≤ Z 1 0
    · by_cases e3 : Z 28 0 = 3
      · refine AW.istore dL_isDone_491 rfl ?_
        refine AW.iload dL_isDone_493 rfl ?_
        refine AW.aload dL_isDone_495 rfl ?_
        refine AW.iconst dL_isDone_497 (by decide) ?_
        refine AW.aldIE dL_isDone_498 J.T.a4 (by omega) (by omega) (by exact V.s.g0) ?_
        refine AW.icmp_gtF (tgt := 531) dL_isDone_499 rfl (by omega) ?_
        refine AW.aload dL_isDone_502 rfl ?_
        refine AW.iconst dL_isDone_504 (by decide) ?_
        refine AW.aldIE dL_isDone_505 J.T.a4 (by omega) (by omega) (by exact V.g3) ?_
        refine AW.iconst dL_isDone_506 (by decide) ?_
        refine AW.icmp_neF (tgt := 531) dL_isDone_507 rfl (by omega) ?_
        refine AW.aload_n dL_isDone_510 rfl ?_
        refine AW.iconst dL_isDone_511 (by decide) ?_
        refine AW.callV (as := [vi _]) dL_isDone_512 rfl rfl rfl okX7_head lkL_74 J.F rfl rfl rfl rfl (leb (by omega)) (leb (by omega)) rfl (t_hd J (AW.k1 ?_))
        refine AW.bipush dL_isDone_515 bp_100 (by decide) ?_
        refine AW.aload dL_isDone_517 rfl ?_
        refine AW.iconst dL_isDone_519 (by decide) ?_
        refine AW.aldIE dL_isDone_520 J.T.a4 (by omega) (by omega) (by exact V.s.g0) ?_
        refine AW.imulB dL_isDone_521 (by omega) ?_
        refine AW.icmp_neF (tgt := 529) dL_isDone_522 rfl (by rfl) ?_
        refine AW.iconst dL_isDone_525 (by decide) ?_
        refine AW.goto (tgt := 530) dL_isDone_526 rfl ?_
        refine AW.zret dL_isDone_530 rfl ?_ ?_
        · omega
        exact k _ _ c (by omega) J V
      · obtain ⟨n, hn⟩ := Int.eq_ofNat_of_zero_le v3.1
        refine AW.istore dL_isDone_491 rfl ?_
        refine AW.iload dL_isDone_493 rfl ?_
        refine AW.aload dL_isDone_495 rfl ?_
        refine AW.iconst dL_isDone_497 (by decide) ?_
        refine AW.aldIE dL_isDone_498 J.T.a4 (by omega) (by omega) (by exact V.s.g0) ?_
        refine AW.icmp_gtF (tgt := 531) dL_isDone_499 rfl (by omega) ?_
        refine AW.aload dL_isDone_502 rfl ?_
        refine AW.iconst dL_isDone_504 (by decide) ?_
        refine AW.aldIE dL_isDone_505 J.T.a4 (by omega) (by omega) (by exact V.g3) ?_
        refine AW.iconst dL_isDone_506 (by decide) ?_
        refine AW.icmp_neT (tgt := 531) dL_isDone_507 rfl (by omega) ?_
        refine AW.iload dL_isDone_531 rfl ?_
        refine AW.aload dL_isDone_533 rfl ?_
        refine AW.iconst dL_isDone_535 (by decide) ?_
        refine AW.aldIE dL_isDone_536 J.T.a4 (by omega) (by omega) (by exact V.s.g0) ?_
        refine AW.icmp_leT (tgt := 546) dL_isDone_537 rfl (by omega) ?_
        refine AW.aload dL_isDone_546 rfl ?_
        refine AW.iconst dL_isDone_548 (by decide) ?_
        refine AW.aldIE dL_isDone_549 J.T.a4 (by omega) (by omega) (by exact V.g3.trans hn) ?_
        refine AW.istore dL_isDone_550 rfl ?_
        refine AW.iload dL_isDone_552 rfl ?_
        refine AW.if_ltF (tgt := 594) dL_isDone_554 rfl (by omega) ?_
        refine AW.aload dL_isDone_557 rfl ?_
        refine AW.pcs (pc2 := 559) rfl ?_
        refine AW.iconst dL_isDone_559 (by decide) ?_
        refine AW.iload dL_isDone_560 rfl ?_
        refine AW.imulB dL_isDone_562 (by omega) ?_
        refine AW.iload dL_isDone_563 rfl ?_
        refine AW.astI dL_isDone_565 J.T.a8 (by omega) (by omega) ?_
        rw [show (3 * (n : Int)).toNat = 3 * n by omega]
        refine AW.aload dL_isDone_566 rfl ?_
        refine AW.iconst dL_isDone_568 (by decide) ?_
        refine AW.iload dL_isDone_569 rfl ?_
        refine AW.imulB dL_isDone_571 (by omega) ?_
        refine AW.iconst dL_isDone_572 (by decide) ?_
        refine AW.iaddB dL_isDone_573 (by omega) ?_
        refine AW.iconst dL_isDone_574 (by decide) ?_
        refine AW.astI dL_isDone_575 J.T.a8 (by omega) (by omega) ?_
        rw [show (3 * (n : Int) + 1).toNat = 3 * n + 1 by omega]
        refine AW.aload dL_isDone_576 rfl ?_
        refine AW.iconst dL_isDone_578 (by decide) ?_
        refine AW.iload dL_isDone_579 rfl ?_
        refine AW.imulB dL_isDone_581 (by omega) ?_
        refine AW.iconst dL_isDone_582 (by decide) ?_
        refine AW.iaddB dL_isDone_583 (by omega) ?_
        refine AW.iconst dL_isDone_584 (by decide) ?_
        refine AW.astI dL_isDone_585 J.T.a8 (by omega) (by omega) ?_
        rw [show (3 * (n : Int) + 2).toNat = 3 * n + 2 by omega]
        refine AW.aload dL_isDone_586 rfl ?_
        refine AW.iconst dL_isDone_588 (by decide) ?_
        refine AW.dup2 dL_isDone_589 rfl rfl ?_
        refine AW.pcs (pc2 := 590) rfl ?_
        refine AW.aldIE dL_isDone_590 J.T.a4 (by omega) (by omega) (by exact (hI_sIla.trans (if_neg (by omega))).trans ((hI_sIla.trans (if_neg (by omega))).trans ((hI_sIla.trans (if_neg (by omega))).trans (V.g3.trans hn)))) ?_
        refine AW.iconst dL_isDone_591 (by decide) ?_
        refine AW.iaddB dL_isDone_592 (by omega) ?_
        refine AW.astI dL_isDone_593 J.T.a4 (by omega) (by omega) ?_
        refine AW.gen (P := fun g => FM n v h g) (FM.mk (by omega)) (fun g2 F2 => ?_)
        refine AW.aload_n dL_isDone_594 rfl ?_
        refine AW.bipush dL_isDone_595 bp_9 (by decide) ?_
        refine AW.iconst dL_isDone_597 (by decide) ?_
        refine AW.iload dL_isDone_598 rfl ?_
        refine AW.iconst dL_isDone_600 (by decide) ?_
        refine AW.iconst dL_isDone_601 (by decide) ?_
        refine AW.iconst dL_isDone_602 (by decide) ?_
        refine AW.callSH (as := [vq _, vi _, vi _, vi _, vi _, vi _, vi _]) dL_isDone_603 rfl rfl rfl okL_does lkL_149 rfl rfl rfl (by omega) (by omega) rfl (q_mov2 (J.fl F2.1) v3.2 ⟨hv.1, e⟩ (fun g5 S5 I5 Fr5 => (AW.k1 ?_)))
        refine AW.top (y := (n : Int)) hn ?_
        refine AW.iload dL_isDone_606 rfl ?_
        refine AW.icmp_neF (tgt := 615) dL_isDone_608 rfl (by rfl) ?_
        refine AW.iconst dL_isDone_611 (by decide) ?_
        refine AW.goto (tgt := 616) dL_isDone_612 rfl ?_
        refine AW.zret dL_isDone_616 rfl ?_ ?_
        · omega
        have q := mov_go J V ⟨hv.1, e⟩ hn (by omega) F2 S5 I5 Fr5
        exact k _ _ c (by omega) q.1 q.2
    · refine AW.istore dL_isDone_491 rfl ?_
      refine AW.iload dL_isDone_493 rfl ?_
      refine AW.aload dL_isDone_495 rfl ?_
      refine AW.iconst dL_isDone_497 (by decide) ?_
      refine AW.aldIE dL_isDone_498 J.T.a4 (by omega) (by omega) (by exact V.s.g0) ?_
      refine AW.icmp_gtT (tgt := 531) dL_isDone_499 rfl (by omega) ?_
      refine AW.iload dL_isDone_531 rfl ?_
      refine AW.aload dL_isDone_533 rfl ?_
      refine AW.iconst dL_isDone_535 (by decide) ?_
      refine AW.aldIE dL_isDone_536 J.T.a4 (by omega) (by omega) (by exact V.s.g0) ?_
      refine AW.icmp_leF (tgt := 546) dL_isDone_537 rfl (by omega) ?_
      refine AW.sipush dL_isDone_540 sp_m300 (by decide) ?_
      refine AW.goto (tgt := 550) dL_isDone_543 rfl ?_
      refine AW.istore dL_isDone_550 rfl ?_
      refine AW.iload dL_isDone_552 rfl ?_
      refine AW.if_ltT (tgt := 594) dL_isDone_554 rfl (by omega) ?_
      refine AW.aload_n dL_isDone_594 rfl ?_
      refine AW.bipush dL_isDone_595 bp_9 (by decide) ?_
      refine AW.iconst dL_isDone_597 (by decide) ?_
      refine AW.iload dL_isDone_598 rfl ?_
      refine AW.iconst dL_isDone_600 (by decide) ?_
      refine AW.iconst dL_isDone_601 (by decide) ?_
      refine AW.iconst dL_isDone_602 (by decide) ?_
      refine AW.pcs (pc2 := 603) rfl ?_
      refine AW.callSH (as := [vq _, vi _, vi _, vi _, vi _, vi _, vi _]) dL_isDone_603 rfl rfl rfl okL_does lkL_149 rfl rfl rfl (by omega) (by omega) rfl (q_mov J V (fun _ => (AW.k1 ?_)) (fun z => absurd z.2 e))
      refine AW.iload dL_isDone_606 rfl ?_
      refine AW.icmp_neF (tgt := 615) dL_isDone_608 rfl (by rfl) ?_
      refine AW.iconst dL_isDone_611 (by decide) ?_
      refine AW.goto (tgt := 616) dL_isDone_612 rfl ?_
      refine AW.zret dL_isDone_616 rfl ?_ ?_
      · omega
      exact k _ _ c (by omega) J V
  by_cases e0 : o1.tmod 20 = 0
  · refine AW.iload dL_isDone_45 rfl ?_
    refine AW.bipush dL_isDone_47 bp_15 (by decide) ?_
    refine AW.icmp_geT (tgt := 138) dL_isDone_49 rfl (by omega) ?_
    refine AW.iload dL_isDone_138 rfl ?_
    refine AW.bipush dL_isDone_140 bp_19 (by decide) ?_
    refine AW.icmp_geT (tgt := 338) dL_isDone_142 rfl (by omega) ?_
    refine AW.iload dL_isDone_338 rfl ?_
    refine AW.bipush dL_isDone_340 bp_27 (by decide) ?_
    refine AW.icmp_geT (tgt := 458) dL_isDone_342 rfl (by omega) ?_
    refine AW.iload dL_isDone_458 rfl ?_
    refine AW.bipush dL_isDone_460 bp_29 (by decide) ?_
    refine AW.icmp_geF (tgt := 617) dL_isDone_462 rfl (by omega) ?_
    refine AW.iload dL_isDone_465 rfl ?_
    refine AW.bipush dL_isDone_467 bp_20 (by decide) ?_
    refine AW.irem dL_isDone_469 (by omega) ?_
    refine AW.if_neF (tgt := 482) dL_isDone_470 rfl (by exact e0) ?_
    refine AW.aload dL_isDone_473 rfl ?_
    refine AW.iconst dL_isDone_475 (by decide) ?_
    refine AW.aldIE dL_isDone_476 J.T.a4 (by omega) (by omega) (by exact V.s.g0) ?_
    refine AW.iconst dL_isDone_477 (by decide) ?_
    refine AW.iaddB dL_isDone_478 (by omega) ?_
    refine AW.goto (tgt := 491) dL_isDone_479 rfl ?_
    exact s491 _ (by omega)
  · have mm := tmod_b (x := o1) (y := Z 1 0 + 1) d1.1 (by omega)
    refine AW.iload dL_isDone_45 rfl ?_
    refine AW.bipush dL_isDone_47 bp_15 (by decide) ?_
    refine AW.icmp_geT (tgt := 138) dL_isDone_49 rfl (by omega) ?_
    refine AW.iload dL_isDone_138 rfl ?_
    refine AW.bipush dL_isDone_140 bp_19 (by decide) ?_
    refine AW.icmp_geT (tgt := 338) dL_isDone_142 rfl (by omega) ?_
    refine AW.iload dL_isDone_338 rfl ?_
    refine AW.bipush dL_isDone_340 bp_27 (by decide) ?_
    refine AW.icmp_geT (tgt := 458) dL_isDone_342 rfl (by omega) ?_
    refine AW.iload dL_isDone_458 rfl ?_
    refine AW.bipush dL_isDone_460 bp_29 (by decide) ?_
    refine AW.icmp_geF (tgt := 617) dL_isDone_462 rfl (by omega) ?_
    refine AW.iload dL_isDone_465 rfl ?_
    refine AW.bipush dL_isDone_467 bp_20 (by decide) ?_
    refine AW.irem dL_isDone_469 (by omega) ?_
    refine AW.if_neT (tgt := 482) dL_isDone_470 rfl (by exact e0) ?_
    refine AW.iload dL_isDone_482 rfl ?_
    refine AW.aload dL_isDone_484 rfl ?_
    refine AW.iconst dL_isDone_486 (by decide) ?_
    refine AW.aldIE dL_isDone_487 J.T.a4 (by omega) (by omega) (by exact V.s.g0) ?_
    refine AW.iconst dL_isDone_488 (by decide) ?_
    refine AW.iaddB dL_isDone_489 (by omega) ?_
    refine AW.irem dL_isDone_490 (by omega) ?_
    exact s491 _ (by omega)
/-- the law's values of a new row, up to k -/
def R1 (v n k : Nat) (Z : ZT) (h g : AH) : Prop := FL (fun j => j = 5) h g ∧ (∀ i, ¬ (10 * n ≤ i ∧ i < 10 * n + 10) → hI g (la 5) i = hI h (la 5) i) ∧ ∀ j : Nat, j < k → hI g (la 5) (10 * n + j) = zrwV Z 0 (v : Int) j
theorem R1.s {v n k : Nat} {x : Int} (hk : k < 10) (F : R1 v n k Z h g) (e : x = zrwV Z 0 (v : Int) k) : R1 v n (k + 1) Z h (sI g (la 5) (10 * n + k) x) := by
  obtain ⟨q1, q2, q3⟩ := F
  refine ⟨q1.wI rfl, fun i hi => ?_, fun j hj => ?_⟩
  · rw [hI_sIla, if_neg (by omega)]; exact q2 i hi
  · rw [hI_sIla]
    by_cases ej : j = k
    · rw [if_pos ⟨rfl, by omega⟩, e, ej]
    · rw [if_neg (by omega)]; exact q3 j (by omega)
theorem R1.fn {v n : Nat} (F : R1 v n 10 Z h g) : FN n (v : Int) (fun k => zrwV Z 0 (v : Int) k) h (sI (sI (sI g (la 6) (2 * n) (v : Int)) (la 6) (2 * n + 1) 0) (la 4) 2 ((n : Int) + 1)) := by
  obtain ⟨q1, q2, q3⟩ := F
  refine ⟨(((q1.mo (fun j e => Or.inr (Or.inl e)) : FL (fun j => j = 4 ∨ j = 5 ∨ j = 6) h g).wI (Or.inr (Or.inr rfl))).wI (Or.inr (Or.inr rfl))).wI (Or.inl rfl), ⟨fun i hi => ?_, ?_⟩, fun i hi => ?_, fun k hk => ?_, fun i hi => ?_, ?_, ?_⟩
  · rw [hI_sIla, if_neg (by omega), hI_sIla, if_neg (by omega), hI_sIla, if_neg (by omega)]; exact q1.I (by decide) i
  · rw [hI_sIla, if_pos ⟨rfl, rfl⟩]
  · rw [hI_sIla, if_neg (by omega), hI_sIla, if_neg (by omega), hI_sIla, if_neg (by omega)]; exact q2 i hi
  · rw [hI_sIla, if_neg (by omega), hI_sIla, if_neg (by omega), hI_sIla, if_neg (by omega)]; exact q3 k hk
  · rw [hI_sIla, if_neg (by omega), hI_sIla, if_neg (by omega), hI_sIla, if_neg (by omega)]; exact q1.I (by decide) i
  · rw [hI_sIla, if_neg (by omega), hI_sIla, if_neg (by omega), hI_sIla, if_pos ⟨rfl, rfl⟩]
  · rw [hI_sIla, if_neg (by omega), hI_sIla, if_pos ⟨rfl, rfl⟩]
abbrev ldr (i wh o1 o2 o3 : Int) (v n : Nat) : AL := (18, vi (v : Int)) :: (19, vi (n : Int)) :: ldn i wh o1 o2 o3
theorem zrw_0 {v k : Nat} : zrwV Z 0 (v : Int) k = if (k : Int) < Z 2 0 ∧ ¬ Z 5 (48 * v + k) = -1 ∧ ¬ Z 6 (48 * v + k) = 0 then Z 4 k else -1 := by
  unfold zrwV
  rw [show (48 * (24 * 0 + (v : Int)) + (k : Int)).toNat = 48 * v + k by omega, show (48 * 0 + (k : Int)).toNat = k by omega]
  rfl
set_option maxHeartbeats 2000000 in
/-- the values of a new row -/
theorem dn_lp {i wh o1 o2 o3 : Int} {v : Nat} (T0 : LT h) (V : JV h Z) (K : QS Z) (hv : (v : Int) ≤ Z 1 0) (hn : n < 4) (k : ∀ G, R1 v n 10 Z h G → AW mL_isDone fL_isDone loL_isDone mc ms Q bc bs 288 G (ldr i wh o1 o2 o3 v n) []) : ∀ (m j : Nat) (g : AH), j ≤ 10 → 10 ≤ j + m → R1 v n j Z h g → AW mL_isDone fL_isDone loL_isDone mc ms Q bc bs 233 g ((20, vi (j : Int)) :: ldr i wh o1 o2 o3 v n) [] := by
  intro m
  induction m with
  | zero =>
    intro j g h1 h2 F
    have e : j = 10 := by omega
    subst e
    refine AW.iload dL_isDone_233 rfl ?_
    refine AW.bipush dL_isDone_235 bp_10 (by decide) ?_
    refine AW.icmp_geT (tgt := 288) dL_isDone_237 rfl (by omega) ?_
    exact AW.locs (ldr i wh o1 o2 o3 v n) ⟨rfl, rfl, rfl, rfl, rfl, rfl, rfl, rfl, rfl, rfl, rfl, rfl, rfl, rfl, rfl, rfl, rfl, rfl, rfl, rfl, trivial⟩ (k g F)
  | succ m ih =>
    intro j g h1 h2 F
    by_cases e : j = 10
    · exact ih j g h1 (by omega) F
    have b2 := K.b2
    have T := F.1.T T0
    have S1 : LSc g Z := V.s.fl F.1 (by decide) (by decide) (by decide) (by decide)
    have nx : ∀ x : Int, x = zrwV Z 0 (v : Int) j → AW mL_isDone fL_isDone loL_isDone mc ms Q bc bs 233 (sI g (la 5) (10 * n + j) x) ((20, vi ((j + 1 : Nat) : Int)) :: ldr i wh o1 o2 o3 v n) [] := fun x ex => ih (j + 1) _ (by omega) (by omega) (F.s (by omega) ex)
    by_cases c1 : (j : Int) < Z 2 0
    · obtain ⟨fd1, fd2⟩ := f_div K (f := j) c1
      have kd := K.kd (f := j) c1
      by_cases c2 : ¬ Z 5 (48 * v + j) = -1 ∧ ¬ Z 6 (48 * v + j) = 0
      · refine AW.iload dL_isDone_233 rfl ?_
        refine AW.bipush dL_isDone_235 bp_10 (by decide) ?_
        refine AW.icmp_geF (tgt := 288) dL_isDone_237 rfl (by omega) ?_
        refine AW.aload dL_isDone_240 rfl ?_
        refine AW.bipush dL_isDone_242 bp_10 (by decide) ?_
        refine AW.iload dL_isDone_244 rfl ?_
        refine AW.imulB dL_isDone_246 (by omega) ?_
        refine AW.iload dL_isDone_247 rfl ?_
        refine AW.iaddB dL_isDone_249 (by omega) ?_
        refine AW.iload dL_isDone_250 rfl ?_
        refine AW.aload dL_isDone_252 rfl ?_
        refine AW.iconst dL_isDone_254 (by decide) ?_
        refine AW.aldIE dL_isDone_255 T.a4 (by omega) (by omega) (by exact S1.g1) ?_
        refine AW.icmp_geF (tgt := 280) dL_isDone_256 rfl (by omega) ?_
        refine AW.aload_n dL_isDone_259 rfl ?_
        refine AW.iload dL_isDone_260 rfl ?_
        refine AW.iload dL_isDone_262 rfl ?_
        refine AW.callS (as := [vq _, vi _, vi _]) dL_isDone_264 rfl rfl rfl okL_isNeeded lkL_103 rfl rfl rfl (leb (by omega)) (leb (by omega)) rfl (kL_isNd T S1 K (v := v) (f := j) hv (by omega) (AW.k1 ?_))
        refine AW.top (y := 1) (bz_1.mpr c2) ?_
        refine AW.if_eqF (tgt := 280) dL_isDone_267 rfl (by decide) ?_
        refine AW.aload dL_isDone_270 rfl ?_
        refine AW.iload dL_isDone_272 rfl ?_
        refine AW.aldIE dL_isDone_274 T.a3 (by omega) (by omega) (by exact S1.f (f := j) c1) ?_
        refine AW.iconst dL_isDone_275 (by decide) ?_
        refine AW.pcs (pc2 := 276) rfl ?_
        refine AW.idiv dL_isDone_276 (by omega) ?_
        refine AW.top (y := Z 4 j) fd1 ?_
        refine AW.goto (tgt := 281) dL_isDone_277 rfl ?_
        refine AW.astI dL_isDone_281 T.a5 (by omega) (by omega) ?_
        rw [show (10 * (n : Int) + (j : Int)).toNat = 10 * n + j by omega]
        refine AW.iincB dL_isDone_282 rfl rfl (by omega) ?_
        refine AW.goto (tgt := 233) dL_isDone_285 rfl ?_
        exact AW.locs ((20, vi ((j + 1 : Nat) : Int)) :: ldr i wh o1 o2 o3 v n) ⟨rfl, rfl, rfl, rfl, rfl, rfl, rfl, rfl, rfl, rfl, rfl, rfl, rfl, rfl, rfl, rfl, rfl, rfl, rfl, rfl, rfl, trivial⟩ (nx _ (by rw [zrw_0, if_pos ⟨c1, c2⟩]))
      · refine AW.iload dL_isDone_233 rfl ?_
        refine AW.bipush dL_isDone_235 bp_10 (by decide) ?_
        refine AW.icmp_geF (tgt := 288) dL_isDone_237 rfl (by omega) ?_
        refine AW.aload dL_isDone_240 rfl ?_
        refine AW.bipush dL_isDone_242 bp_10 (by decide) ?_
        refine AW.iload dL_isDone_244 rfl ?_
        refine AW.imulB dL_isDone_246 (by omega) ?_
        refine AW.iload dL_isDone_247 rfl ?_
        refine AW.iaddB dL_isDone_249 (by omega) ?_
        refine AW.iload dL_isDone_250 rfl ?_
        refine AW.aload dL_isDone_252 rfl ?_
        refine AW.iconst dL_isDone_254 (by decide) ?_
        refine AW.aldIE dL_isDone_255 T.a4 (by omega) (by omega) (by exact S1.g1) ?_
        refine AW.icmp_geF (tgt := 280) dL_isDone_256 rfl (by omega) ?_
        refine AW.aload_n dL_isDone_259 rfl ?_
        refine AW.iload dL_isDone_260 rfl ?_
        refine AW.iload dL_isDone_262 rfl ?_
        refine AW.callS (as := [vq _, vi _, vi _]) dL_isDone_264 rfl rfl rfl okL_isNeeded lkL_103 rfl rfl rfl (leb (by omega)) (leb (by omega)) rfl (kL_isNd T S1 K (v := v) (f := j) hv (by omega) (AW.k1 ?_))
        refine AW.top (y := 0) (bz_0.mpr c2) ?_
        refine AW.if_eqT (tgt := 280) dL_isDone_267 rfl (by rfl) ?_
        refine AW.iconst dL_isDone_280 (by decide) ?_
        refine AW.astI dL_isDone_281 T.a5 (by omega) (by omega) ?_
        rw [show (10 * (n : Int) + (j : Int)).toNat = 10 * n + j by omega]
        refine AW.iincB dL_isDone_282 rfl rfl (by omega) ?_
        refine AW.goto (tgt := 233) dL_isDone_285 rfl ?_
        exact AW.locs ((20, vi ((j + 1 : Nat) : Int)) :: ldr i wh o1 o2 o3 v n) ⟨rfl, rfl, rfl, rfl, rfl, rfl, rfl, rfl, rfl, rfl, rfl, rfl, rfl, rfl, rfl, rfl, rfl, rfl, rfl, rfl, rfl, trivial⟩ (nx _ (by rw [zrw_0, if_neg (fun z => c2 z.2)]))
    · refine AW.iload dL_isDone_233 rfl ?_
      refine AW.bipush dL_isDone_235 bp_10 (by decide) ?_
      refine AW.icmp_geF (tgt := 288) dL_isDone_237 rfl (by omega) ?_
      refine AW.aload dL_isDone_240 rfl ?_
      refine AW.bipush dL_isDone_242 bp_10 (by decide) ?_
      refine AW.iload dL_isDone_244 rfl ?_
      refine AW.imulB dL_isDone_246 (by omega) ?_
      refine AW.iload dL_isDone_247 rfl ?_
      refine AW.iaddB dL_isDone_249 (by omega) ?_
      refine AW.iload dL_isDone_250 rfl ?_
      refine AW.aload dL_isDone_252 rfl ?_
      refine AW.iconst dL_isDone_254 (by decide) ?_
      refine AW.aldIE dL_isDone_255 T.a4 (by omega) (by omega) (by exact S1.g1) ?_
      refine AW.icmp_geT (tgt := 280) dL_isDone_256 rfl (by omega) ?_
      refine AW.iconst dL_isDone_280 (by decide) ?_
      refine AW.astI dL_isDone_281 T.a5 (by omega) (by omega) ?_
      rw [show (10 * (n : Int) + (j : Int)).toNat = 10 * n + j by omega]
      refine AW.iincB dL_isDone_282 rfl rfl (by omega) ?_
      refine AW.goto (tgt := 233) dL_isDone_285 rfl ?_
      exact AW.locs ((20, vi ((j + 1 : Nat) : Int)) :: ldr i wh o1 o2 o3 v n) ⟨rfl, rfl, rfl, rfl, rfl, rfl, rfl, rfl, rfl, rfl, rfl, rfl, rfl, rfl, rfl, rfl, rfl, rfl, rfl, rfl, rfl, trivial⟩ (nx _ (by rw [zrw_0, if_neg (fun z => c1 z.1)]))
set_option maxHeartbeats 2000000 in
theorem dn_row {i wh o1 o2 o3 : Int} (J : IV L h Z c b) (V : JV h Z) (hc : c < 512) (D : DRW wh o1 o2 o3) (hw : 15 ≤ wh ∧ wh < 19) (k : ∀ g Y c', c' ≤ c + 1 → IV L g Y c' b → JV g Y → Q g (.inl (some (vi 1)))) : AW mL_isDone fL_isDone loL_isDone 20 300 Q 20 300 45 h (ldn i wh o1 o2 o3) [] := by
  obtain ⟨d0, d1, d2, d3⟩ := D
  have K := J.K
  have b1 := K.b1
  have v2 := V.b2
  have s171 : ∀ v : Int, 0 ≤ v ∧ v ≤ Z 1 0 + 1 → AW mL_isDone fL_isDone loL_isDone 20 300 Q 20 300 171 h (ldn i wh o1 o2 o3) [vi v] := fun v hv => by
    by_cases e : v ≤ Z 1 0
    · by_cases e3 : Z 19 0 = 4
      · have st : 0 ≤ zStd Z 3 := by
          have B := (V.r (r := 3) (by omega)).2.1
          have bv := B.v
          have lb := J.lb.1 3
          have za := zstA_rng (Z := Z) (r := 3) 24
          unfold zStd
          rw [show (3 : Int).toNat = 3 by decide, wr_id ⟨by omega, by omega⟩]
          omega
        refine AW.istore dL_isDone_171 rfl ?_
        refine AW.iload dL_isDone_173 rfl ?_
        refine AW.aload dL_isDone_175 rfl ?_
        refine AW.iconst dL_isDone_177 (by decide) ?_
        refine AW.aldIE dL_isDone_178 J.T.a4 (by omega) (by omega) (by exact V.s.g0) ?_
        refine AW.icmp_gtF (tgt := 204) dL_isDone_179 rfl (by omega) ?_
        refine AW.aload dL_isDone_182 rfl ?_
        refine AW.iconst dL_isDone_184 (by decide) ?_
        refine AW.aldIE dL_isDone_185 J.T.a4 (by omega) (by omega) (by exact V.g2) ?_
        refine AW.iconst dL_isDone_186 (by decide) ?_
        refine AW.icmp_neF (tgt := 204) dL_isDone_187 rfl (by omega) ?_
        refine AW.aload_n dL_isDone_190 rfl ?_
        refine AW.iconst dL_isDone_191 (by decide) ?_
        refine AW.callV (as := [vi _]) dL_isDone_192 rfl rfl rfl okX7_standing lkL_71 J.F rfl rfl rfl rfl (leb (by omega)) (leb (by omega)) rfl (t_st J (r := 3) (by omega) (AW.k1 ?_))
        refine AW.if_ltF (tgt := 202) dL_isDone_195 rfl (by exact st) ?_
        refine AW.iconst dL_isDone_198 (by decide) ?_
        refine AW.goto (tgt := 203) dL_isDone_199 rfl ?_
        refine AW.zret dL_isDone_203 rfl ?_ ?_
        · omega
        exact k _ _ c (by omega) J V
      · obtain ⟨n, hn⟩ := Int.eq_ofNat_of_zero_le v2.1
        obtain ⟨v, rfl⟩ := Int.eq_ofNat_of_zero_le hv.1
        refine AW.istore dL_isDone_171 rfl ?_
        refine AW.iload dL_isDone_173 rfl ?_
        refine AW.aload dL_isDone_175 rfl ?_
        refine AW.iconst dL_isDone_177 (by decide) ?_
        refine AW.aldIE dL_isDone_178 J.T.a4 (by omega) (by omega) (by exact V.s.g0) ?_
        refine AW.icmp_gtF (tgt := 204) dL_isDone_179 rfl (by omega) ?_
        refine AW.aload dL_isDone_182 rfl ?_
        refine AW.iconst dL_isDone_184 (by decide) ?_
        refine AW.aldIE dL_isDone_185 J.T.a4 (by omega) (by omega) (by exact V.g2) ?_
        refine AW.iconst dL_isDone_186 (by decide) ?_
        refine AW.icmp_neT (tgt := 204) dL_isDone_187 rfl (by omega) ?_
        refine AW.iload dL_isDone_204 rfl ?_
        refine AW.aload dL_isDone_206 rfl ?_
        refine AW.iconst dL_isDone_208 (by decide) ?_
        refine AW.aldIE dL_isDone_209 J.T.a4 (by omega) (by omega) (by exact V.s.g0) ?_
        refine AW.icmp_leT (tgt := 219) dL_isDone_210 rfl (by omega) ?_
        refine AW.aload dL_isDone_219 rfl ?_
        refine AW.iconst dL_isDone_221 (by decide) ?_
        refine AW.aldIE dL_isDone_222 J.T.a4 (by omega) (by omega) (by exact V.g2.trans hn) ?_
        refine AW.istore dL_isDone_223 rfl ?_
        refine AW.iload dL_isDone_225 rfl ?_
        refine AW.if_ltF (tgt := 315) dL_isDone_227 rfl (by omega) ?_
        refine AW.iconst dL_isDone_230 (by decide) ?_
        refine AW.pcs (pc2 := 231) rfl ?_
        refine AW.istore dL_isDone_231 rfl ?_
        refine AW.locs ((20, vi ((0 : Nat) : Int)) :: ldr i wh o1 o2 o3 v n) ⟨rfl, rfl, rfl, rfl, rfl, rfl, rfl, rfl, rfl, rfl, rfl, rfl, rfl, rfl, rfl, rfl, rfl, rfl, rfl, rfl, rfl, trivial⟩ (dn_lp J.T V K e (by omega) (fun g1 F1 => ?_) 10 0 h (by omega) (by omega) ⟨FL.rf, fun _ _ => rfl, fun j hj => absurd hj (by omega)⟩)
        have T1 := F1.1.T J.T
        refine AW.aload dL_isDone_288 rfl ?_
        refine AW.iconst dL_isDone_290 (by decide) ?_
        refine AW.iload dL_isDone_291 rfl ?_
        refine AW.imulB dL_isDone_293 (by omega) ?_
        refine AW.iload dL_isDone_294 rfl ?_
        refine AW.astI dL_isDone_296 T1.a6 (by omega) (by omega) ?_
        rw [show (2 * (n : Int)).toNat = 2 * n by omega]
        refine AW.aload dL_isDone_297 rfl ?_
        refine AW.iconst dL_isDone_299 (by decide) ?_
        refine AW.iload dL_isDone_300 rfl ?_
        refine AW.imulB dL_isDone_302 (by omega) ?_
        refine AW.iconst dL_isDone_303 (by decide) ?_
        refine AW.iaddB dL_isDone_304 (by omega) ?_
        refine AW.iconst dL_isDone_305 (by decide) ?_
        refine AW.astI dL_isDone_306 T1.a6 (by omega) (by omega) ?_
        rw [show (2 * (n : Int) + 1).toNat = 2 * n + 1 by omega]
        refine AW.aload dL_isDone_307 rfl ?_
        refine AW.iconst dL_isDone_309 (by decide) ?_
        refine AW.dup2 dL_isDone_310 rfl rfl ?_
        refine AW.aldIE dL_isDone_311 T1.a4 (by omega) (by omega) (by exact (hI_sIla.trans (if_neg (by omega))).trans ((hI_sIla.trans (if_neg (by omega))).trans ((F1.1.I (by decide) _).trans (V.g2.trans hn)))) ?_
        refine AW.iconst dL_isDone_312 (by decide) ?_
        refine AW.iaddB dL_isDone_313 (by omega) ?_
        refine AW.astI dL_isDone_314 T1.a4 (by omega) (by omega) ?_
        refine AW.gen (P := fun g => FN n (v : Int) (fun k => zrwV Z 0 (v : Int) k) h g) F1.fn (fun g2 F2 => ?_)
        refine AW.aload_n dL_isDone_315 rfl ?_
        refine AW.bipush dL_isDone_316 bp_7 (by decide) ?_
        refine AW.pcs (pc2 := 318) rfl ?_
        refine AW.iconst dL_isDone_318 (by decide) ?_
        refine AW.iload dL_isDone_319 rfl ?_
        refine AW.iconst dL_isDone_321 (by decide) ?_
        refine AW.iconst dL_isDone_322 (by decide) ?_
        refine AW.iconst dL_isDone_323 (by decide) ?_
        refine AW.callSH (as := [vq _, vi _, vi _, vi _, vi _, vi _, vi _]) dL_isDone_324 rfl rfl rfl okL_does lkL_149 rfl rfl rfl (by omega) (by omega) rfl (q_row2 (J.fl F2.1) v2.2 hc ⟨hv.1, e⟩ (fun g5 S5 I5 Fr5 => (AW.k1 ?_)))
        refine AW.top (y := (n : Int)) hn ?_
        refine AW.iload dL_isDone_327 rfl ?_
        refine AW.icmp_neF (tgt := 336) dL_isDone_329 rfl (by rfl) ?_
        refine AW.iconst dL_isDone_332 (by decide) ?_
        refine AW.goto (tgt := 337) dL_isDone_333 rfl ?_
        refine AW.zret dL_isDone_337 rfl ?_ ?_
        · omega
        have q := row_go J V ⟨hv.1, e⟩ hn (by omega) F2 S5 I5 Fr5
        exact k _ _ (c + 1) (by omega) q.1 q.2
    · refine AW.istore dL_isDone_171 rfl ?_
      refine AW.iload dL_isDone_173 rfl ?_
      refine AW.aload dL_isDone_175 rfl ?_
      refine AW.iconst dL_isDone_177 (by decide) ?_
      refine AW.aldIE dL_isDone_178 J.T.a4 (by omega) (by omega) (by exact V.s.g0) ?_
      refine AW.icmp_gtT (tgt := 204) dL_isDone_179 rfl (by omega) ?_
      refine AW.iload dL_isDone_204 rfl ?_
      refine AW.aload dL_isDone_206 rfl ?_
      refine AW.iconst dL_isDone_208 (by decide) ?_
      refine AW.aldIE dL_isDone_209 J.T.a4 (by omega) (by omega) (by exact V.s.g0) ?_
      refine AW.icmp_leF (tgt := 219) dL_isDone_210 rfl (by omega) ?_
      refine AW.sipush dL_isDone_213 sp_m300 (by decide) ?_
      refine AW.goto (tgt := 223) dL_isDone_216 rfl ?_
      refine AW.istore dL_isDone_223 rfl ?_
      refine AW.iload dL_isDone_225 rfl ?_
      refine AW.if_ltT (tgt := 315) dL_isDone_227 rfl (by omega) ?_
      refine AW.aload_n dL_isDone_315 rfl ?_
      refine AW.bipush dL_isDone_316 bp_7 (by decide) ?_
      refine AW.iconst dL_isDone_318 (by decide) ?_
      refine AW.iload dL_isDone_319 rfl ?_
      refine AW.iconst dL_isDone_321 (by decide) ?_
      refine AW.iconst dL_isDone_322 (by decide) ?_
      refine AW.iconst dL_isDone_323 (by decide) ?_
      refine AW.pcs (pc2 := 324) rfl ?_
      refine AW.callSH (as := [vq _, vi _, vi _, vi _, vi _, vi _, vi _]) dL_isDone_324 rfl rfl rfl okL_does lkL_149 rfl rfl rfl (by omega) (by omega) rfl (q_row J V hc (fun _ => (AW.k1 ?_)) (fun z => absurd z.2 e))
      refine AW.iload dL_isDone_327 rfl ?_
      refine AW.icmp_neF (tgt := 336) dL_isDone_329 rfl (by rfl) ?_
      refine AW.iconst dL_isDone_332 (by decide) ?_
      refine AW.goto (tgt := 337) dL_isDone_333 rfl ?_
      refine AW.zret dL_isDone_337 rfl ?_ ?_
      · omega
      exact k _ _ c (by omega) J V
  by_cases e0 : o1.tmod 20 = 0
  · refine AW.iload dL_isDone_45 rfl ?_
    refine AW.bipush dL_isDone_47 bp_15 (by decide) ?_
    refine AW.icmp_geT (tgt := 138) dL_isDone_49 rfl (by omega) ?_
    refine AW.iload dL_isDone_138 rfl ?_
    refine AW.bipush dL_isDone_140 bp_19 (by decide) ?_
    refine AW.icmp_geF (tgt := 338) dL_isDone_142 rfl (by omega) ?_
    refine AW.iload dL_isDone_145 rfl ?_
    refine AW.bipush dL_isDone_147 bp_20 (by decide) ?_
    refine AW.irem dL_isDone_149 (by omega) ?_
    refine AW.if_neF (tgt := 162) dL_isDone_150 rfl (by exact e0) ?_
    refine AW.aload dL_isDone_153 rfl ?_
    refine AW.iconst dL_isDone_155 (by decide) ?_
    refine AW.aldIE dL_isDone_156 J.T.a4 (by omega) (by omega) (by exact V.s.g0) ?_
    refine AW.iconst dL_isDone_157 (by decide) ?_
    refine AW.iaddB dL_isDone_158 (by omega) ?_
    refine AW.goto (tgt := 171) dL_isDone_159 rfl ?_
    exact s171 _ (by omega)
  · have mm := tmod_b (x := o1) (y := Z 1 0 + 1) d1.1 (by omega)
    refine AW.iload dL_isDone_45 rfl ?_
    refine AW.bipush dL_isDone_47 bp_15 (by decide) ?_
    refine AW.icmp_geT (tgt := 138) dL_isDone_49 rfl (by omega) ?_
    refine AW.iload dL_isDone_138 rfl ?_
    refine AW.bipush dL_isDone_140 bp_19 (by decide) ?_
    refine AW.icmp_geF (tgt := 338) dL_isDone_142 rfl (by omega) ?_
    refine AW.iload dL_isDone_145 rfl ?_
    refine AW.bipush dL_isDone_147 bp_20 (by decide) ?_
    refine AW.irem dL_isDone_149 (by omega) ?_
    refine AW.if_neT (tgt := 162) dL_isDone_150 rfl (by exact e0) ?_
    refine AW.iload dL_isDone_162 rfl ?_
    refine AW.aload dL_isDone_164 rfl ?_
    refine AW.iconst dL_isDone_166 (by decide) ?_
    refine AW.aldIE dL_isDone_167 J.T.a4 (by omega) (by omega) (by exact V.s.g0) ?_
    refine AW.iconst dL_isDone_168 (by decide) ?_
    refine AW.iaddB dL_isDone_169 (by omega) ?_
    refine AW.irem dL_isDone_170 (by omega) ?_
    exact s171 _ (by omega)
set_option maxHeartbeats 2000000 in
theorem kL_isDone {i : Int} (J : IV L h Z c b) (V : JV h Z) (hc : c < 512) (hL9 : L < 2147483648) (hi : 0 ≤ i ∧ i < 900) (k : ∀ g Y c', c' ≤ c + 1 → IV L g Y c' b → JV g Y → Q g (.inl (some (vi 1)))) : AC mL_isDone fL_isDone loL_isDone 20 300 h [vr mF, vr nS, vi i, vr (la 1), vr (la 2), vr (la 3), vr (la 4), vr (la 5), vr (la 6), vr (la 7), vr (la 8), vr (la 9), vr (la 10), vr (la 11)] Q := by
  refine AC.mk (by decide) (Nat.le_of_ble_eq_true rfl) ?_
  refine AW.aload_n dL_isDone_0 rfl ?_
  refine AW.iload_n dL_isDone_1 rfl ?_
  refine AW.bipush dL_isDone_2 bp_40 (by decide) ?_
  refine AW.callS (as := [vq _, vi _, vi _]) dL_isDone_4 rfl rfl rfl okL_part lkL_159 rfl rfl rfl (leb (by omega)) (leb (by omega)) rfl (kL_part J.N hL9 (by omega) (by omega) (fun wh a1 a2 => (AW.k1 ?_)))
  refine AW.istore dL_isDone_7 rfl ?_
  refine AW.aload_n dL_isDone_9 rfl ?_
  refine AW.iload_n dL_isDone_10 rfl ?_
  refine AW.iconst dL_isDone_11 (by decide) ?_
  refine AW.iaddB dL_isDone_12 (by omega) ?_
  refine AW.sipush dL_isDone_13 sp_6000 (by decide) ?_
  refine AW.callS (as := [vq _, vi _, vi _]) dL_isDone_16 rfl rfl rfl okL_part lkL_159 rfl rfl rfl (leb (by omega)) (leb (by omega)) rfl (kL_part J.N hL9 (by omega) (by omega) (fun o1 b1 b2 => (AW.k1 ?_)))
  refine AW.istore dL_isDone_19 rfl ?_
  refine AW.aload_n dL_isDone_21 rfl ?_
  refine AW.iload_n dL_isDone_22 rfl ?_
  refine AW.iconst dL_isDone_23 (by decide) ?_
  refine AW.iaddB dL_isDone_24 (by omega) ?_
  refine AW.sipush dL_isDone_25 sp_7000 (by decide) ?_
  refine AW.callS (as := [vq _, vi _, vi _]) dL_isDone_28 rfl rfl rfl okL_part lkL_159 rfl rfl rfl (leb (by omega)) (leb (by omega)) rfl (kL_part J.N hL9 (by omega) (by omega) (fun o2 c1 c2 => (AW.k1 ?_)))
  refine AW.istore dL_isDone_31 rfl ?_
  refine AW.aload_n dL_isDone_33 rfl ?_
  refine AW.iload_n dL_isDone_34 rfl ?_
  refine AW.iconst dL_isDone_35 (by decide) ?_
  refine AW.iaddB dL_isDone_36 (by omega) ?_
  refine AW.pcs (pc2 := 37) rfl ?_
  refine AW.sipush dL_isDone_37 sp_8000 (by decide) ?_
  refine AW.callS (as := [vq _, vi _, vi _]) dL_isDone_40 rfl rfl rfl okL_part lkL_159 rfl rfl rfl (leb (by omega)) (leb (by omega)) rfl (kL_part J.N hL9 (by omega) (by omega) (fun o3 d1 d2 => (AW.k1 ?_)))
  refine AW.istore dL_isDone_43 rfl ?_
  refine AW.locs (ldn i wh o1 o2 o3) ⟨rfl, rfl, rfl, rfl, rfl, rfl, rfl, rfl, rfl, rfl, rfl, rfl, rfl, rfl, rfl, rfl, rfl, rfl, trivial⟩ ?_
  have D : DRW wh o1 o2 o3 := ⟨⟨a1, a2⟩, ⟨b1, b2⟩, ⟨c1, c2⟩, d1, d2⟩
  by_cases w1 : wh < 15
  · exact dn_stp J V D w1 k
  · by_cases w2 : wh < 19
    · exact dn_row J V hc D ⟨by omega, w2⟩ k
    · by_cases w3 : wh < 27
      · exact dn_set J V hc D ⟨by omega, w3⟩ k
      · by_cases w4 : wh < 29
        · exact dn_mov J V D ⟨by omega, w4⟩ k
        · exact dn_mvr J V hc D (by omega) k
end H2

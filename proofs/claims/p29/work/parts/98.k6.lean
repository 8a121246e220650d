/-! ===== the relation: the face: step ===== -/
section K6
variable {Q : AH → AO → Prop} {h g H G gc : AH} {Z Y X : ZT} {c q s a b r x k : Nat} {A : Nat → Nat}
theorem sX7_farthestRowE {m : Nat} {y : Int} (S : SIMq A 9 h Z c) (M : BM Z) (hm : (m : Int) < Z 28 0) (e : znx Z (m : Int) = y) (k : Q h (.inl (some (vi y)))) : AC mX7_farthestRow fX7_farthestRow loX7_farthestRow 0 0 h [vr mF, vr (10, m, 0)] Q :=
  sX7_farthestRow S M hm (by rw [e]; exact k)
set_option maxHeartbeats 2000000 in
theorem sX7_step {m : Int} (S : SIM h Z c) (B : ZB Z) (hc : c < 512) (k1 : zcStp Z m = 1 → Q h (.inr eIx)) (k2 : zcStp Z m = 2 → Q h (.inr eIs))
    (k0 : zcStp Z m = 0 → ∀ g, SIM g (zStp Z (znx Z m) m) (c + 1) → Fr nMo h g → Q g (.inl (some (vi (znx Z m))))) : AC mX7_step fX7_step loX7_step 7 240 h [vr mF, vi m] Q := by
  obtain ⟨A, S⟩ := S
  have W := S.1.1
  have C := S.1.2.1
  have e9 := S.1.2.2.1.2.2.2.1
  have e10 := S.1.2.2.1.2.2.2.2
  have cc := S.1.2.2.2.2.2.2.2
  have zz := S.zz
  have z19 := S.c19
  have z28 := S.c28
  have z32 := C.2.2.2.2.1
  rw [e10] at z32
  have M := B.2.2.2.1
  refine AC.mk (by decide) (Nat.le_of_ble_eq_true rfl) ?_
  by_cases hm : ¬ (0 ≤ m ∧ m < Z 28 0)
  · have e1 : zcStp Z m = 1 := cd2_1 (fun z => hm ⟨z.1, by omega⟩)
    refine AW.aload_n dX7_step_0 rfl ?_
    refine AW.iload_n dX7_step_1 rfl ?_
    refine AW.callV (as := [vi _]) dX7_step_2 rfl rfl rfl okX7_moverAt lkX7_361 W.o rfl rfl rfl rfl rfl rfl rfl (kX7_moverAt W C (fun _ => k1 e1) (fun z => absurd (e9 ▸ z) hm))
    skip
  have hm := Classical.not_not.mp hm
  obtain ⟨m, rfl⟩ := Int.eq_ofNat_of_zero_le hm.1
  have hX := znxA_rng (Z := Z) (m := (m : Int)) (Z 19 0).toNat
  obtain ⟨WM, m1, m2, m3, m4⟩ := S.2.2.2.2.2.1 m hm.2
  by_cases hx : znx Z (m : Int) = -1
  · have e2 : zcStp Z (m : Int) = 2 := cd2_2 (fun z => z ⟨by omega, by omega⟩) hx
    refine AW.aload_n dX7_step_0 rfl ?_
    refine AW.iload_n dX7_step_1 rfl ?_
    refine AW.callV (as := [vi _]) dX7_step_2 rfl rfl rfl okX7_moverAt lkX7_361 W.o rfl rfl rfl rfl rfl rfl rfl (kX7_moverN W C (by rw [e9]; exact hm.2) (AW.k1 ?_))
    refine AW.astore_n dX7_step_5 rfl ?_
    refine AW.aload_n dX7_step_6 rfl ?_
    refine AW.aload_n dX7_step_7 rfl ?_
    refine AW.callV (as := [vq _]) dX7_step_8 rfl rfl rfl okX7_farthestRow lkX7_365 W.o rfl rfl rfl rfl rfl rfl rfl (sX7_farthestRow S M hm.2 (AW.k1 ?_))
    refine AW.istore_n dX7_step_11 rfl ?_
    refine AW.iload_n dX7_step_12 rfl ?_
    refine AW.if_lt (tgt := 34) dX7_step_13 rfl (fun c_13 => ?_) (fun c_13 => ?_)
    · refine AW.anull dX7_step_34 ?_
      refine AW.astore dX7_step_35 rfl ?_
      refine AW.aload dX7_step_37 rfl ?_
      refine AW.ifnull (tgt := 52) dX7_step_39 rfl (fun c_39 => ?_) (fun n_39 c_39 => ?_)
      · refine AW.throwW dX7_step_52 dX7_step_55 dX7_step_56 dX7_step_59 dX7_step_62 rfl okTX7_50 strX7_372 rfl rfl rfl rfl rfl ?_
        exact k2 e2
      · exact absurd c_39 (by simp)
    · exact absurd c_13 (by omega)
  have e0 : zcStp Z (m : Int) = 0 := cd2_z (fun z => z ⟨by omega, by omega⟩) hx
  obtain ⟨x1, x2, x3, x4⟩ := hX.resolve_left hx
  rw [show znxA Z (m : Int) (Z 19 0).toNat = znx Z (m : Int) from rfl] at x1 x2 x3 x4
  generalize eX : znx Z (m : Int) = xr at *
  obtain ⟨r, rfl⟩ := Int.eq_ofNat_of_zero_le x1
  rw [Int.toNat_natCast, Int.toNat_natCast] at x3
  obtain ⟨k, em⟩ := Int.eq_ofNat_of_zero_le z32.1
  have hr : (r : Int) < Z 19 0 := by omega
  have Rr := S.2.2.2.2.1 r hr
  have RWr := Rr.1
  have r2 := Rr.2.1
  have R3 := Rr.2.2.1
  obtain ⟨s, es⟩ := Int.eq_ofNat_of_zero_le r2.1
  have eS : (Z 20 r).toNat = s := by omega
  have eS2 : (Z 29 m).toNat = s := by omega
  rw [eS] at RWr R3
  rw [eS2] at WM
  have hs : (s : Int) < Z 0 0 := by omega
  obtain ⟨S1, K, SQ1⟩ := S.sc hs
  have SQ1 := SQ1 (by omega)
  have b1 := K.b1
  have Mm := (M.2 m (by omega)).2.2
  rw [eS2] at Mm
  have r3 := R3.1
  obtain ⟨v, ev⟩ := Int.eq_ofNat_of_zero_le (a := zstA' Z (r : Int) (m : Int)) (by unfold zstA'; rw [Int.toNat_natCast, Int.toNat_natCast]; split <;> omega)
  have hv : 1 ≤ v ∧ (v : Int) ≤ Z 1 s := by
    rw [← Int.ofNat_le, ← ev]
    unfold zstA'
    unfold zoff at x4
    rw [Int.toNat_natCast, Int.toNat_natCast] at *
    (repeat' split at x4) <;> split <;> omega
  have hV : Z 21 r = if bz (Z 21 r < Z 30 m) = 0 then (v : Int) else (v : Int) - 1 := by
    rw [← ev]
    unfold zstA' bz
    rw [Int.toNat_natCast, Int.toNat_natCast]
    (repeat' split) <;> omega
  have n11 := S.2.1.2.2.2.2.2 k (by omega)
  have e8 := S.1.2.2.1.2.2.1
  have e3 : hR h (3, 3, 0) (r : Int).toNat = some (9, r, 0) := by rw [Int.toNat_natCast, C.2.2.1.2 _ (by omega), if_pos (by omega)]
  have XW : MvrW (aN h (11, k, 0) 2 0) m s := by
    unfold MvrW at *
    rw [hT_aN, hR_aN, if_neg (by simp), if_neg (by simp)]; exact WM
  have XR : RowW (aN h (11, k, 0) 2 0) r s := RWr.f (P := fun n => ¬ n = (11, k, 0)) (Fr.rf.nw (fun z => z rfl)) (by simp)
  have XI : hI (aN h (11, k, 0) 2 0) (10, m, 0) 2 = Z 31 m := by rw [hI_aN, if_neg (by simp)]; exact m3
  have XJ : hI (aN h (11, k, 0) 2 0) (9, r, 0) 2 = hI h (9, r, 0) 2 := by rw [hI_aN, if_neg (by simp)]
  have zX : zSv (zStp2 Z r (24 * (s : Int) + (v : Int)) (24 * (r : Int) + (v : Int)) m) Z := fun j hj => zStp2_o (by
    simp only [Bool.or_eq_true, beq_iff_eq] at hj
    simp only [Bool.and_eq_true, bne_iff_ne, ne_eq]
    omega)
  -- what the heaps behind the copy keep
  have kp : ∀ g, Fr (fun n => ¬ (n.1 = 11 ∧ n.2.1 = k) ∧ ¬ (n.1 = 14 ∧ n.2.1 = k)) h g → FmW g ∧ RowW g r s ∧ MvrW g m s ∧ StaW g 13 r ∧ RW g Z s 13 r r ∧ SV g Z s ∧ SB g s ∧ hI g (3, 0, 0) 10 = (k : Int) := fun g F => by
    have n4 : ∀ x y z : Nat, ¬ x = 11 → ¬ x = 14 → (¬ (((x, y, z) : Nm).1 = 11 ∧ ((x, y, z) : Nm).2.1 = k) ∧ ¬ (((x, y, z) : Nm).1 = 14 ∧ ((x, y, z) : Nm).2.1 = k)) := fun x y z h1 h2 => ⟨fun w => h1 w.1, fun w => h2 w.1⟩
    have Sg : SV g Z s := S1.fr3 b1.2 F (fun x _ => n4 _ _ _ (by decide) (by decide)) (fun v _ => ⟨n4 _ _ _ (by decide) (by decide), n4 _ _ _ (by decide) (by decide), n4 _ _ _ (by decide) (by decide)⟩)
    exact ⟨W.f F (fun j => n4 _ _ _ (by decide) (by decide)), RWr.f F (n4 _ _ _ (by decide) (by decide)), by unfold MvrW at *; rw [F.T (n4 _ _ _ (by decide) (by decide)), F.R (n4 _ _ _ (by decide) (by decide))]; exact WM, R3.2.1.f F (fun j => n4 _ _ _ (by decide) (by decide)), R3.f F (fun j => n4 _ _ _ (by decide) (by decide)), Sg, Sg.sb K (by rw [F.I (n4 _ _ _ (by decide) (by decide)), SQ1.1]; exact SQ1.2.1), by rw [F.I (n4 _ _ _ (by decide) (by decide))]; exact e10.trans em⟩
  have FN : ∀ g, Fr (fun n => ¬ n.1 = 3) g (sR g (3, 5, 0) k (some (11, k, 0))) := fun g => Fr.rf.wR (fun z => z rfl)
  refine AW.aload_n dX7_step_0 rfl ?_
  refine AW.iload_n dX7_step_1 rfl ?_
  refine AW.callV (as := [vi _]) dX7_step_2 rfl rfl rfl okX7_moverAt lkX7_361 W.o rfl rfl rfl rfl rfl rfl rfl (kX7_moverN W C (by rw [e9]; exact hm.2) (AW.k1 ?_))
  refine AW.astore_n dX7_step_5 rfl ?_
  refine AW.aload_n dX7_step_6 rfl ?_
  refine AW.aload_n dX7_step_7 rfl ?_
  refine AW.callV (as := [vq _]) dX7_step_8 rfl rfl rfl okX7_farthestRow lkX7_365 W.o rfl rfl rfl rfl rfl rfl rfl (sX7_farthestRowE S M hm.2 eX (AW.k1 ?_))
  refine AW.istore_n dX7_step_11 rfl ?_
  refine AW.iload_n dX7_step_12 rfl ?_
  refine AW.if_lt (tgt := 34) dX7_step_13 rfl (fun c_13 => ?_) (fun c_13 => ?_)
  · exact absurd c_13 (by omega)
  · refine AW.iload_n dX7_step_16 rfl ?_
    refine AW.aload_n dX7_step_17 rfl ?_
    refine AW.getRE (j := 2) W.o dX7_step_18 lkX7_23 rfl rfl inC8 rfl W.r2 ?_
    refine AW.alen (t := 5) dX7_step_21 W.t2 (by decide) (by decide) ?_
    refine AW.icmp_ge (tgt := 34) dX7_step_22 rfl (fun c_22 => ?_) (fun c_22 => ?_)
    · exact absurd c_22 (by omega)
    · refine AW.aload_n dX7_step_25 rfl ?_
      refine AW.getRE (j := 2) W.o dX7_step_26 lkX7_23 rfl rfl inC8 rfl W.r2 ?_
      refine AW.iload_n dX7_step_29 rfl ?_
      refine AW.aldR (t := 5) dX7_step_30 W.t2 (by decide) rfl (by omega) (by omega) e3 ?_
      refine AW.goto (tgt := 35) dX7_step_31 rfl ?_
      refine AW.astore dX7_step_35 rfl ?_
      refine AW.aload dX7_step_37 rfl ?_
      refine AW.ifnull (tgt := 52) dX7_step_39 rfl (fun c_39 => ?_) (fun n_39 c_39 => ?_)
      · exact absurd c_39 (by simp)
      · refine AW.aload_n dX7_step_42 rfl ?_
        refine AW.getIE (j := 10) W.o dX7_step_43 lkX7_369 rfl rfl inC8 rfl (by exact e10.trans em) ?_
        refine AW.sipush dX7_step_46 sp_512 (by decide) ?_
        refine AW.icmp_lt (tgt := 63) dX7_step_49 rfl (fun c_49 => ?_) (fun c_49 => ?_)
        · refine AW.new (kc := 2) (11, k, 0) n11.1 dX7_step_63 rfl inC2 lkX7_33 insX1 iniX1 rfl rfl ?_
          refine AW.dup dX7_step_66 rfl ?_
          refine AW.iload_n dX7_step_67 rfl ?_
          refine AW.aload_n dX7_step_68 rfl ?_
          refine AW.getIE (j := 2) XW.o dX7_step_69 lkX7_374 rfl rfl inC3 rfl (by exact XI) ?_
          refine AW.aload dX7_step_72 rfl ?_
          refine AW.getIE (j := 2) XR.o dX7_step_74 lkX7_332 rfl rfl inC4 rfl (by exact XJ) ?_
          refine AW.callI (as := [vi _, vi _, vi _]) dX7_step_77 rfl rfl rfl okX1_init lkX7_375 rfl rfl rfl rfl rfl (kX1_n n11.1 n11.2 (fun g F Wk i0 i1 i2 => (AW.k0 ?_)))
          obtain ⟨kF, kR, kM, kV, kW, kS, kB, kn⟩ := kp g F
          have V14 := Wk.2.2
          have Fcp : Fr (fun n => ¬ (n.1 = 11 ∧ n.2.1 = k) ∧ ¬ (n.1 = 14 ∧ n.2.1 = k)) h (ccp g 14 k 13 r) := F.tr (Fr.rf.kccp (fun j z => z.2 ⟨rfl, rfl⟩))
          obtain ⟨pF, pR, pM, pV, pW, pS, pB, pn⟩ := kp _ Fcp
          have Wk2 : MovW (ccp g 14 k 13 r) k := ⟨Wk.1, Wk.2.1, Wk.2.2⟩
          have CS : cpS h (ccp g 14 k 13 r) 13 r 14 k := (by obtain ⟨⟨c0, c1⟩, c2, c3, c4⟩ := ccp_I (h := g) (a := 13) (b := r) (a' := 14) (b' := k) (by decide); have e : ∀ j i, hI g (13, r, j) i = hI h (13, r, j) i := fun j i => F.I ⟨by simp, by simp⟩ i; exact ⟨⟨c0.trans (e _ _), c1.trans (e _ _)⟩, fun i hi => (c2 i hi).trans (e _ _), fun i hi => (c3 i hi).trans (e _ _), fun i hi => (c4 i hi).trans (e _ _)⟩)
          have F11 : ∀ i, hI (ccp g 14 k 13 r) (11, k, 0) i = hI g (11, k, 0) i := Fr.I (P := fun n => ¬ n.1 = 14) (Fr.rf.kccp (fun j z => z rfl)) (by simp)
          have F0 := FN (ccp g 14 k 13 r)
          have qF : FmW (sR (ccp g 14 k 13 r) (3, 5, 0) k (some (11, k, 0))) := (by unfold FmW at *; simp only [hR_sR, Prod.mk.injEq, show ¬ (0 : Nat) = 5 from by decide, false_and, and_false, if_false]; exact pF)
          have qR := pR.f F0 (by simp)
          have qM : MvrW (sR (ccp g 14 k 13 r) (3, 5, 0) k (some (11, k, 0))) m s := (by unfold MvrW at *; rw [F0.T (by simp), F0.R (by simp)]; exact pM)
          have qV := pV.f F0 (fun j => by simp)
          have qW := pW.f F0 (fun j => by simp)
          have qS : SV (sR (ccp g 14 k 13 r) (3, 5, 0) k (some (11, k, 0))) Z s := pS.fr3 b1.2 F0 (fun x _ => by simp) (fun v _ => ⟨by simp, by simp, by simp⟩)
          have qB : SB (sR (ccp g 14 k 13 r) (3, 5, 0) k (some (11, k, 0))) s := (by unfold SB; rw [hI_sR]; exact pB)
          have qv : hI (sR (ccp g 14 k 13 r) (3, 5, 0) k (some (11, k, 0))) (13, r, 0) 0 = Z 21 r := qW.1.1
          have qt : hI (sR (ccp g 14 k 13 r) (3, 5, 0) k (some (11, k, 0))) (10, m, 0) 1 = Z 30 m := (by rw [hI_sR, Fcp.I ⟨by simp, by simp⟩]; exact m2)
          have qX : RW (sR (ccp g 14 k 13 r) (3, 5, 0) k (some (11, k, 0))) (zStp2 Z r (24 * (s : Int) + (v : Int)) (24 * (r : Int) + (v : Int)) m) s 13 r r := qW.zc (by rw [zX 1 rfl]) (zX 5 rfl) (zX 7 rfl) (by rw [zStp2_o rfl]) (fun _ _ => by rw [zStp2_o rfl]) (by rw [zStp2_o rfl]) (fun _ _ => by rw [zStp2_o rfl]) (fun _ _ => by rw [zStp2_o rfl])
          have qS2 := qS.z zX
          have qK := K.c zX
          refine AW.astore dX7_step_80 rfl ?_
          refine AW.aload dX7_step_82 rfl ?_
          refine AW.getRE (j := 3) Wk.o dX7_step_84 lkX7_378 rfl rfl inC2 rfl Wk.r3 ?_
          refine AW.aload dX7_step_87 rfl ?_
          refine AW.getRE (j := 1) kR.o dX7_step_89 lkX7_320 rfl rfl inC4 rfl kR.r1 ?_
          refine AW.callV (as := [vq _]) dX7_step_92 rfl rfl rfl okX5_copyFrom lkX7_328 V14.o rfl rfl rfl rfl rfl rfl rfl (kX5_copyFrom V14 kV rfl kW.isB (AW.k0 ?_))
          refine AW.aload_n dX7_step_95 rfl ?_
          refine AW.getRE (j := 4) pF.o dX7_step_96 lkX7_35 rfl rfl inC8 rfl pF.r4 ?_
          refine AW.aload_n dX7_step_99 rfl ?_
          refine AW.getIE (j := 10) pF.o dX7_step_100 lkX7_369 rfl rfl inC8 rfl (by exact pn) ?_
          refine AW.aload dX7_step_103 rfl ?_
          refine AW.astR (t := 7) dX7_step_105 pF.t4 (by decide) (by decide) rfl Wk2.o (by omega) (by omega) ?_
          refine AW.aload dX7_step_106 rfl ?_
          refine AW.getRE (j := 0) qR.o dX7_step_108 lkX7_302 rfl rfl inC4 rfl qR.r0 ?_
          refine AW.aload dX7_step_111 rfl ?_
          refine AW.pcs (pc2 := 113) rfl ?_
          refine AW.getRE (j := 1) qR.o dX7_step_113 lkX7_320 rfl rfl inC4 rfl qR.r1 ?_
          refine AW.aload dX7_step_116 rfl ?_
          refine AW.getRE (j := 1) qR.o dX7_step_118 lkX7_320 rfl rfl inC4 rfl qR.r1 ?_
          refine AW.getIE (j := 0) qV.o dX7_step_121 lkX7_323 rfl rfl inC6 rfl (by exact qv) ?_
          refine AW.aload_n dX7_step_124 rfl ?_
          refine AW.getIE (j := 1) qM.o dX7_step_125 lkX7_381 rfl rfl inC3 rfl (by exact qt) ?_
          refine AW.icmp_ge (tgt := 135) dX7_step_128 rfl (fun c_128 => ?_) (fun c_128 => ?_)
          · refine AW.iconst dX7_step_135 (by decide) ?_
            refine AW.top (y := bz (Z 21 r < Z 30 m)) (by unfold bz; split <;> omega) ?_
            refine AW.callV (as := [vq _, vi _]) dX7_step_136 rfl rfl rfl okX4_carry lkX7_384 qS.1.o rfl rfl rfl rfl rfl rfl rfl (sX4_carryP (v := v) (Z := zStp2 Z r (24 * (s : Int) + (v : Int)) (24 * (r : Int) + (v : Int)) m) qS2 qK qB qX (by decide) (bz01 _) hv.1 (by rw [zX 1 rfl]; exact hv.2) (by rw [zStp2_o rfl]; exact hV) (fun gc Fc Vc Bc Rc Qc => (AW.k0 ?_)))
            have n0 : ∀ x y z : Nat, ¬ x = 4 → ¬ x = 13 → nOf s 13 r (x, y, z) := fun x y z h4 h13 => ⟨fun w => h13 w.1, fun w => h4 w.1⟩
            have tF : FmW gc := qF.f Fc (fun j => n0 _ _ _ (by decide) (by decide))
            have tR : RowW gc r s := qR.f Fc (n0 _ _ _ (by decide) (by decide))
            have tM : MvrW gc m s := (by unfold MvrW at *; rw [Fc.T (n0 _ _ _ (by decide) (by decide)), Fc.R (n0 _ _ _ (by decide) (by decide))]; exact qM)
            have tn : hI gc (3, 0, 0) 10 = (k : Int) := (Fc.I (n0 _ _ _ (by decide) (by decide)) _).trans ((congrFun (congrFun (hI_sR _ _ _ _) _) _).trans pn)
            have P := X_stp (u := bz (Z 21 r < Z 30 m)) S B.1.2.2.1 hc em hr hm.2 ev es hv rfl hV Fcp Wk2 ((F11 _).trans i0) ((F11 _).trans i1) ((F11 _).trans i2) CS Fc (Vc.z (fun j hj => (zX j hj).symm)) Rc (by have Qc2 := Qc; unfold CQ at Qc2 ⊢; rw [zX 7 rfl, zX 8 rfl, zX 9 rfl] at Qc2; exact Qc2)
            refine AW.aload_n dX7_step_139 rfl ?_
            refine AW.aload_n dX7_step_140 rfl ?_
            refine AW.getIE (j := 10) tF.o dX7_step_141 lkX7_369 rfl rfl inC8 rfl (by exact tn) ?_
            refine AW.putI (j := 2) dX7_step_144 tM.o rfl rfl inC3 lkX7_374 rfl (Or.inl rfl) (Or.inl rfl) ?_
            refine AW.aload dX7_step_147 rfl ?_
            refine AW.aload_n dX7_step_149 rfl ?_
            refine AW.getIE (j := 10) (show FmW (sI gc (10, m, 0) 2 (k : Int)) from tF).o dX7_step_150 lkX7_369 rfl rfl inC8 rfl (by exact hI_n1 rfl tn) ?_
            refine AW.putI (j := 2) dX7_step_153 (show RowW (sI gc (10, m, 0) 2 (k : Int)) r s from tR).o rfl rfl inC4 lkX7_332 rfl (Or.inl rfl) (Or.inl rfl) ?_
            refine AW.aload_n dX7_step_156 rfl ?_
            refine AW.dup dX7_step_157 rfl ?_
            refine AW.getIE (j := 10) (show FmW (sI (sI gc (10, m, 0) 2 (k : Int)) (9, r, 0) 2 (k : Int)) from tF).o dX7_step_158 lkX7_369 rfl rfl inC8 rfl (by exact hI_n1 rfl (hI_n1 rfl tn)) ?_
            refine AW.iconst dX7_step_161 (by decide) ?_
            refine AW.iaddB dX7_step_162 (by omega) ?_
            refine AW.putI (j := 10) dX7_step_163 (show FmW (sI (sI gc (10, m, 0) 2 (k : Int)) (9, r, 0) 2 (k : Int)) from tF).o rfl rfl inC8 lkX7_369 rfl (Or.inl rfl) (Or.inl rfl) ?_
            refine AW.iload_n dX7_step_166 rfl ?_
            refine AW.iret dX7_step_167 rfl ?_
            exact k0 e0 _ ⟨_, P.1⟩ P.2
          · refine AW.iconst dX7_step_131 (by decide) ?_
            refine AW.goto (tgt := 136) dX7_step_132 rfl ?_
            refine AW.top (y := bz (Z 21 r < Z 30 m)) (by unfold bz; split <;> omega) ?_
            refine AW.callV (as := [vq _, vi _]) dX7_step_136 rfl rfl rfl okX4_carry lkX7_384 qS.1.o rfl rfl rfl rfl rfl rfl rfl (sX4_carryP (v := v) (Z := zStp2 Z r (24 * (s : Int) + (v : Int)) (24 * (r : Int) + (v : Int)) m) qS2 qK qB qX (by decide) (bz01 _) hv.1 (by rw [zX 1 rfl]; exact hv.2) (by rw [zStp2_o rfl]; exact hV) (fun gc Fc Vc Bc Rc Qc => (AW.k0 ?_)))
            have n0 : ∀ x y z : Nat, ¬ x = 4 → ¬ x = 13 → nOf s 13 r (x, y, z) := fun x y z h4 h13 => ⟨fun w => h13 w.1, fun w => h4 w.1⟩
            have tF : FmW gc := qF.f Fc (fun j => n0 _ _ _ (by decide) (by decide))
            have tR : RowW gc r s := qR.f Fc (n0 _ _ _ (by decide) (by decide))
            have tM : MvrW gc m s := (by unfold MvrW at *; rw [Fc.T (n0 _ _ _ (by decide) (by decide)), Fc.R (n0 _ _ _ (by decide) (by decide))]; exact qM)
            have tn : hI gc (3, 0, 0) 10 = (k : Int) := (Fc.I (n0 _ _ _ (by decide) (by decide)) _).trans ((congrFun (congrFun (hI_sR _ _ _ _) _) _).trans pn)
            have P := X_stp (u := bz (Z 21 r < Z 30 m)) S B.1.2.2.1 hc em hr hm.2 ev es hv rfl hV Fcp Wk2 ((F11 _).trans i0) ((F11 _).trans i1) ((F11 _).trans i2) CS Fc (Vc.z (fun j hj => (zX j hj).symm)) Rc (by have Qc2 := Qc; unfold CQ at Qc2 ⊢; rw [zX 7 rfl, zX 8 rfl, zX 9 rfl] at Qc2; exact Qc2)
            refine AW.aload_n dX7_step_139 rfl ?_
            refine AW.aload_n dX7_step_140 rfl ?_
            refine AW.getIE (j := 10) tF.o dX7_step_141 lkX7_369 rfl rfl inC8 rfl (by exact tn) ?_
            refine AW.putI (j := 2) dX7_step_144 tM.o rfl rfl inC3 lkX7_374 rfl (Or.inl rfl) (Or.inl rfl) ?_
            refine AW.aload dX7_step_147 rfl ?_
            refine AW.aload_n dX7_step_149 rfl ?_
            refine AW.getIE (j := 10) (show FmW (sI gc (10, m, 0) 2 (k : Int)) from tF).o dX7_step_150 lkX7_369 rfl rfl inC8 rfl (by exact hI_n1 rfl tn) ?_
            refine AW.putI (j := 2) dX7_step_153 (show RowW (sI gc (10, m, 0) 2 (k : Int)) r s from tR).o rfl rfl inC4 lkX7_332 rfl (Or.inl rfl) (Or.inl rfl) ?_
            refine AW.aload_n dX7_step_156 rfl ?_
            refine AW.dup dX7_step_157 rfl ?_
            refine AW.getIE (j := 10) (show FmW (sI (sI gc (10, m, 0) 2 (k : Int)) (9, r, 0) 2 (k : Int)) from tF).o dX7_step_158 lkX7_369 rfl rfl inC8 rfl (by exact hI_n1 rfl (hI_n1 rfl tn)) ?_
            refine AW.iconst dX7_step_161 (by decide) ?_
            refine AW.iaddB dX7_step_162 (by omega) ?_
            refine AW.putI (j := 10) dX7_step_163 (show FmW (sI (sI gc (10, m, 0) 2 (k : Int)) (9, r, 0) 2 (k : Int)) from tF).o rfl rfl inC8 lkX7_369 rfl (Or.inl rfl) (Or.inl rfl) ?_
            refine AW.iload_n dX7_step_166 rfl ?_
            refine AW.iret dX7_step_167 rfl ?_
            exact k0 e0 _ ⟨_, P.1⟩ P.2
        · exact absurd c_49 (by omega)
end K6

/-! ===== the face: head, field, replayed, standing, set ===== -/
section I2
variable {Q : AH → AO → Prop} {h g G : AH} {Z Y X : ZT} {c q s a b r x : Nat} {A : Nat → Nat}
theorem SIMq.up {q c' : Nat} (S : SIMq A q h Z c) (hc : c ≤ c') : SIMq A q h Z c' := by
  obtain ⟨⟨t1, t2, t3, t4, t6, t5⟩, R⟩ := S
  exact ⟨⟨t1, t2, t3, t4, t6, by omega, t5.2.1, by omega⟩, R⟩
theorem sX7_head {s : Int} (S : SIM h Z c) (k1 : ¬ (0 ≤ s ∧ s < Z 0 0) → Q h (.inr eIx)) (k0 : (0 ≤ s ∧ s < Z 0 0) → Q h (.inl (some (vi (100 * Z 1 s.toNat + Z 11 s.toNat))))) : AC mX7_head fX7_head loX7_head 2 12 h [vr mF, vi s] Q := by
  obtain ⟨A, S⟩ := S
  have W := S.1.1
  have C := S.1.2.1
  have eC := S.1.2.2.1.1
  have zz := S.zz
  refine AC.mk (by decide) (Nat.le_of_ble_eq_true rfl) ?_
  by_cases hs : ¬ (0 ≤ s ∧ s < Z 0 0)
  · refine AW.aload_n dX7_head_0 rfl ?_
    refine AW.iload_n dX7_head_1 rfl ?_
    refine AW.callV (as := [vi _]) dX7_head_2 rfl rfl rfl okX7_schemaAt lkX7_58 W.o rfl rfl rfl rfl rfl rfl rfl (kX7_schemaAt W C (fun _ => k1 hs) (fun z => absurd (eC ▸ z) hs))
    skip
  have hs := Classical.not_not.mp hs
  obtain ⟨s, rfl⟩ := Int.eq_ofNat_of_zero_le hs.1
  obtain ⟨S1, K, SQ1⟩ := S.sc hs.2
  have SQ1 := SQ1 (by omega)
  have b1 := K.b1
  have W5 := S1.1
  have q2 := SQ1.2.1
  refine AW.aload_n dX7_head_0 rfl ?_
  refine AW.iload_n dX7_head_1 rfl ?_
  refine AW.callV (as := [vi _]) dX7_head_2 rfl rfl rfl okX7_schemaAt lkX7_58 W.o rfl rfl rfl rfl rfl rfl rfl (kX7_schemaN W C (by rw [eC]; exact hs.2) (AW.k1 ?_))
  refine AW.astore_n dX7_head_5 rfl ?_
  refine AW.bipush dX7_head_6 bp_100 (by decide) ?_
  refine AW.aload_n dX7_head_8 rfl ?_
  refine AW.getIE (j := 0) W5.o dX7_head_9 lkX7_75 rfl rfl inC5 rfl (by exact S1.hd) ?_
  refine AW.imulB dX7_head_12 (by omega) ?_
  refine AW.aload_n dX7_head_13 rfl ?_
  refine AW.getIE (j := 1) W5.o dX7_head_14 lkX7_180 rfl rfl inC5 rfl (by exact SQ1.1) ?_
  refine AW.iaddB dX7_head_17 (by omega) ?_
  refine AW.iret dX7_head_18 rfl ?_
  exact k0 hs
set_option maxHeartbeats 1000000 in
theorem sX7_field {s v n : Int} (S : SIM h Z c) (B : ZB Z) (k1 : zcFie Z s v n = 1 → Q h (.inr eIx)) (k2 : zcFie Z s v n = 2 → Q h (.inr eIa)) (k0 : zcFie Z s v n = 0 → Q h (.inl (some (vi (zFie Z s v n))))) : AC mX7_field fX7_field loX7_field 4 24 h [vr mF, vi s, vi v, vi n] Q := by
  obtain ⟨A, S⟩ := S
  have W := S.1.1
  have C := S.1.2.1
  have eC := S.1.2.2.1.1
  have zz := S.zz
  refine AC.mk (by decide) (Nat.le_of_ble_eq_true rfl) ?_
  by_cases hs : ¬ (0 ≤ s ∧ s < Z 0 0)
  · have e1 : zcFie Z s v n = 1 := cd2_1 (fun z => hs z.1)
    refine AW.aload_n dX7_field_0 rfl ?_
    refine AW.iload_n dX7_field_1 rfl ?_
    refine AW.callV (as := [vi _]) dX7_field_2 rfl rfl rfl okX7_schemaAt lkX7_58 W.o rfl rfl rfl rfl rfl rfl rfl (kX7_schemaAt W C (fun _ => k1 e1) (fun z => absurd (eC ▸ z) hs))
    skip
  have hs := Classical.not_not.mp hs
  obtain ⟨s, rfl⟩ := Int.eq_ofNat_of_zero_le hs.1
  obtain ⟨S1, K, SQ1⟩ := S.sc hs.2
  have SQ1 := SQ1 (by omega)
  have b1 := K.b1
  have b2 := K.b2
  have W5 := S1.1
  have B5 := S1.sb K (by rw [SQ1.1]; exact SQ1.2.1)
  have rF := S1.fr K (v := v) (n := n)
  have eZ : (0 ≤ v ∧ v ≤ Z 1 s) → zfind Z s v n = cfn h s v n := fun z => S1.fnd K z
  generalize eF : cfn h s v n = F at rF eZ
  refine AW.aload_n dX7_field_0 rfl ?_
  refine AW.iload_n dX7_field_1 rfl ?_
  refine AW.callV (as := [vi _]) dX7_field_2 rfl rfl rfl okX7_schemaAt lkX7_58 W.o rfl rfl rfl rfl rfl rfl rfl (kX7_schemaN W C (by rw [eC]; exact hs.2) (AW.k1 ?_))
  refine AW.astore dX7_field_5 rfl ?_
  refine AW.aload dX7_field_7 rfl ?_
  refine AW.iload_n dX7_field_9 rfl ?_
  refine AW.callV (as := [vi _]) dX7_field_10 rfl rfl rfl okX4_isVersion lkX7_183 W5.o rfl rfl rfl rfl rfl rfl rfl (kX4_isVersion W5 B5 (AW.k1 ?_))
  refine AW.if_ne (tgt := 26) dX7_field_13 rfl (fun c_13 => ?_) (fun c_13 => ?_)
  · have hv := bz_n0.mp c_13
    rw [S1.hd] at hv
    refine AW.iload_n dX7_field_26 rfl ?_
    refine AW.callS (as := [vi _]) dX7_field_27 rfl rfl rfl okX7_isName lkX7_62 rfl rfl rfl rfl rfl rfl (kX7_isName  (AW.k1 ?_))
    refine AW.if_ne (tgt := 43) dX7_field_30 rfl (fun c_30 => ?_) (fun c_30 => ?_)
    · have e0 : zcFie Z s v n = 0 := cd2_z (fun z => z ⟨hs, hv⟩) (fun z => z (bz_n0.mp c_30))
      have k0 := k0 e0
      unfold zFie at k0
      rw [eZ hv] at k0
      refine AW.aload dX7_field_43 rfl ?_
      refine AW.iload_n dX7_field_45 rfl ?_
      refine AW.iload_n dX7_field_46 rfl ?_
      refine AW.callV (as := [vi _, vi _]) dX7_field_47 rfl rfl rfl okX4_fieldNamed lkX7_78 W5.o rfl rfl rfl rfl rfl rfl rfl (kX4_fieldNamed W5 B5 (AW.k1 ?_))
      refine AW.top (y := F) eF ?_
      refine AW.istore dX7_field_50 rfl ?_
      refine AW.iload dX7_field_52 rfl ?_
      refine AW.iconst dX7_field_54 (by decide) ?_
      refine AW.icmp_ne (tgt := 60) dX7_field_55 rfl (fun c_55 => ?_) (fun c_55 => ?_)
      · have rF2 := rF.resolve_left c_55
        have ekd : ckd h s F = Z 3 (48 * s + F.toNat) := by (rw [S1.eck ⟨by omega, by omega⟩]; unfold zkof; rw [if_neg c_55]; congr 1; omega)
        have kF := (K.2.2.2.1 F.toNat (by omega))
        have end_ : cnd h s v F = Z 6 (48 * (24 * s + v.toNat) + F.toNat) := by (have y := S1.ndq K B.1.2.1 (v := v.toNat) (f := F) (by omega) ⟨by omega, by omega⟩ (by omega); rw [show ((v.toNat : Nat) : Int) = v by omega] at y; exact y)
        refine AW.bipush dX7_field_60 bp_10 (by decide) ?_
        refine AW.iload dX7_field_62 rfl ?_
        refine AW.imulB dX7_field_64 (by omega) ?_
        refine AW.aload dX7_field_65 rfl ?_
        refine AW.iload_n dX7_field_67 rfl ?_
        refine AW.iload dX7_field_68 rfl ?_
        refine AW.callV (as := [vi _, vi _]) dX7_field_70 rfl rfl rfl okX4_isNeeded lkX7_112 W5.o rfl rfl rfl rfl rfl rfl rfl (kX4_isNeeded W5 B5 (AW.k1 ?_))
        refine' AW.if_eqJ 81 (tgt := 80) dX7_field_73 rfl _ _ _
        rotate_left 2
        · intro c_73 k_73
          refine AW.iconst dX7_field_80 (by decide) ?_
          exact k_73
        · intro c_73 k_73
          refine AW.iconst dX7_field_76 (by decide) ?_
          refine AW.goto (tgt := 81) dX7_field_77 rfl ?_
          exact k_73
        refine AW.top (y := if Z 6 (48 * (24 * s + v.toNat) + F.toNat) = 0 then 0 else 3) (by rw [end_]) ?_
        refine AW.iaddB dX7_field_81 (by split <;> omega) ?_
        refine AW.aload dX7_field_82 rfl ?_
        refine AW.iload dX7_field_84 rfl ?_
        refine AW.callV (as := [vi _]) dX7_field_86 rfl rfl rfl okX4_kindOf lkX7_120 W5.o rfl rfl rfl rfl rfl rfl rfl (kX4_kindOf W5 B5 (AW.k1 ?_))
        refine AW.top (y := Z 3 (48 * s + F.toNat)) ekd ?_
        refine AW.iaddB dX7_field_89 (by split <;> omega) ?_
        refine AW.iret dX7_field_90 rfl ?_
        rw [if_neg c_55] at k0
        refine fin1 k0 rfl ?_
        rw [show (48 * (24 * (s : Int) + v) + F).toNat = 48 * (24 * s + v.toNat) + F.toNat by omega, show (48 * (s : Int) + F).toNat = 48 * s + F.toNat by omega]
      · refine AW.iconst dX7_field_58 (by decide) ?_
        refine AW.iret dX7_field_59 rfl ?_
        rw [if_pos c_55] at k0
        exact k0
    · refine AW.throwS dX7_field_33 dX7_field_36 dX7_field_37 dX7_field_39 dX7_field_42 rfl okTX7_70 strX7_191 rfl rfl rfl rfl rfl ?_
      exact k2 (cd2_2 (fun z => z ⟨hs, hv⟩) (bz_0.mp c_30))
  · refine AW.throwS dX7_field_16 dX7_field_19 dX7_field_20 dX7_field_22 dX7_field_25 rfl okTX7_186 strX7_188 rfl rfl rfl rfl rfl ?_
    exact k1 (cd2_1 (fun z => bz_0.mp c_13 (by rw [S1.hd]; exact z.2)))
theorem RR.fnd {n : Int} (S : SIMq A 9 h Z c) (hr : (r : Int) < Z 19 0) : zinR Z (r : Int) n = cfn h (Z 20 r).toNat (Z 21 r) n := by
  have Rr := S.2.2.2.2.1 r hr
  have r2 := Rr.2.1
  have r3 := Rr.2.2.1.1
  obtain ⟨S1, K, -⟩ := S.sc (s := (Z 20 r).toNat) (by omega)
  unfold zinR
  rw [if_pos ⟨by omega, by omega⟩, Int.toNat_natCast]
  have := S1.fnd K (n := n) (v := Z 21 r) r3.2
  rw [show (((Z 20 r).toNat : Nat) : Int) = Z 20 r by omega] at this
  exact this
set_option maxHeartbeats 1000000 in
theorem sX7_replayed {r n : Int} (S : SIM h Z c) (k1 : zinR Z r n = -1 → Q h (.inr eIx)) (k0 : ¬ zinR Z r n = -1 → Q h (.inl (some (vi (Z 22 (48 * r + zinR Z r n).toNat))))) : AC mX7_replayed fX7_replayed loX7_replayed 4 24 h [vr mF, vi r, vi n] Q := by
  obtain ⟨A, S⟩ := S
  have W := S.1.1
  have C := S.1.2.1
  have eC := S.1.2.2.1.2.2.1
  have zz := S.zz
  have z19 := S.c19
  refine AC.mk (by decide) (Nat.le_of_ble_eq_true rfl) ?_
  by_cases hr : ¬ (0 ≤ r ∧ r < Z 19 0)
  · have e1 : zinR Z r n = -1 := by unfold zinR; rw [if_neg (fun z => hr ⟨z.1, by omega⟩)]
    refine AW.aload_n dX7_replayed_0 rfl ?_
    refine AW.iload_n dX7_replayed_1 rfl ?_
    refine AW.callV (as := [vi _]) dX7_replayed_2 rfl rfl rfl okX7_rowAt lkX7_298 W.o rfl rfl rfl rfl rfl rfl rfl (kX7_rowAt W C (fun _ => k1 e1) (fun z => absurd (eC ▸ z) hr))
    skip
  have hr := Classical.not_not.mp hr
  obtain ⟨r, rfl⟩ := Int.eq_ofNat_of_zero_le hr.1
  have Rr := S.2.2.2.2.1 r hr.2
  have RWr := Rr.1
  have r2 := Rr.2.1
  have R3 := Rr.2.2.1
  have r3 := Rr.2.2.1.1
  have V13 := R3.2.1
  obtain ⟨S1, K, SQ1⟩ := S.sc (s := (Z 20 r).toNat) (by omega)
  have SQ1 := SQ1 (by omega)
  have b1 := K.b1
  have b2 := K.b2
  have W5 := S1.1
  have B5 := S1.sb K (by rw [SQ1.1]; exact SQ1.2.1)
  have rF := S1.fr K (v := Z 21 r) (n := n)
  have eV := RR.fnd (n := n) S hr.2
  rw [eV] at k0 k1
  generalize eF : cfn h (Z 20 r).toNat (Z 21 r) n = F at k0 k1 rF
  by_cases hF : F = -1
  · refine AW.aload_n dX7_replayed_0 rfl ?_
    refine AW.iload_n dX7_replayed_1 rfl ?_
    refine AW.callV (as := [vi _]) dX7_replayed_2 rfl rfl rfl okX7_rowAt lkX7_298 W.o rfl rfl rfl rfl rfl rfl rfl (kX7_rowN W C (by rw [eC]; exact hr.2) (AW.k1 ?_))
    refine AW.astore_n dX7_replayed_5 rfl ?_
    refine AW.aload_n dX7_replayed_6 rfl ?_
    refine AW.getRE (j := 0) RWr.o dX7_replayed_7 lkX7_302 rfl rfl inC4 rfl RWr.r0 ?_
    refine AW.aload_n dX7_replayed_10 rfl ?_
    refine AW.getRE (j := 1) RWr.o dX7_replayed_11 lkX7_320 rfl rfl inC4 rfl RWr.r1 ?_
    refine AW.getIE (j := 0) V13.o dX7_replayed_14 lkX7_323 rfl rfl inC6 rfl (by exact r3.1) ?_
    refine AW.iload_n dX7_replayed_17 rfl ?_
    refine AW.callS (as := [vq _, vi _, vi _]) dX7_replayed_18 rfl rfl rfl okX7_fieldAt lkX7_341 rfl rfl rfl rfl rfl rfl (kX7_fieldAt W5 B5 (fun _ => k1 hF) (fun z => absurd (by rw [eF]; exact hF) z))
    skip
  obtain ⟨rv, rn, rF0, rF1, rF5⟩ := rF.resolve_left hF
  refine AW.aload_n dX7_replayed_0 rfl ?_
  refine AW.iload_n dX7_replayed_1 rfl ?_
  refine AW.callV (as := [vi _]) dX7_replayed_2 rfl rfl rfl okX7_rowAt lkX7_298 W.o rfl rfl rfl rfl rfl rfl rfl (kX7_rowN W C (by rw [eC]; exact hr.2) (AW.k1 ?_))
  refine AW.astore_n dX7_replayed_5 rfl ?_
  refine AW.aload_n dX7_replayed_6 rfl ?_
  refine AW.getRE (j := 0) RWr.o dX7_replayed_7 lkX7_302 rfl rfl inC4 rfl RWr.r0 ?_
  refine AW.aload_n dX7_replayed_10 rfl ?_
  refine AW.getRE (j := 1) RWr.o dX7_replayed_11 lkX7_320 rfl rfl inC4 rfl RWr.r1 ?_
  refine AW.getIE (j := 0) V13.o dX7_replayed_14 lkX7_323 rfl rfl inC6 rfl (by exact r3.1) ?_
  refine AW.iload_n dX7_replayed_17 rfl ?_
  refine AW.callS (as := [vq _, vi _, vi _]) dX7_replayed_18 rfl rfl rfl okX7_fieldAt lkX7_341 rfl rfl rfl rfl rfl rfl (kX7_fieldAtE W5 B5 eF hF (AW.k1 ?_))
  refine AW.istore dX7_replayed_21 rfl ?_
  refine AW.aload_n dX7_replayed_23 rfl ?_
  refine AW.getRE (j := 1) RWr.o dX7_replayed_24 lkX7_320 rfl rfl inC4 rfl RWr.r1 ?_
  refine AW.iload dX7_replayed_27 rfl ?_
  refine AW.callV (as := [vi _]) dX7_replayed_29 rfl rfl rfl okX5_valueOf lkX7_309 V13.o rfl rfl rfl rfl rfl rfl rfl (kX5_valueOf V13 (AW.k1 ?_))
  refine AW.iret dX7_replayed_32 rfl ?_
  refine fin1 (k0 hF) rfl ?_
  rw [if_pos (by omega), R3.2.2.2.1 F.toNat (by omega) (by omega)]
  congr 1
  omega
theorem cbx_eq (R : RW h Z s 13 r r) : cbxA h 13 r 48 = zstA Z r 24 := by
  have lp : ∀ k : Nat, k ≤ 24 → cbxA h 13 r (2 * k) = zstA Z r k := by
    intro k
    induction k with
    | zero => intro _; rfl
    | succ k ih =>
      intro hk
      obtain ⟨m1, m2, m3, -⟩ := R.2.2.2.2 k (by omega)
      rw [show 2 * (k + 1) = (2 * k + 1) + 1 by omega]
      unfold cbxA cbxA zstA
      rw [ih (by omega), m2, m3, show (24 * (r : Int) + (k : Int)).toNat = 24 * r + k by omega]
      unfold bz
      (repeat' split) <;> omega
  exact lp 24 (by omega)
set_option maxHeartbeats 1000000 in
theorem sX7_standing {r : Int} (S : SIM h Z c) (k1 : ¬ (0 ≤ r ∧ r ≤ Z 19 0 - 1) → Q h (.inr eIx)) (k0 : (0 ≤ r ∧ r ≤ Z 19 0 - 1) → Q h (.inl (some (vi (zStd Z r))))) : AC mX7_standing fX7_standing loX7_standing 2 12 h [vr mF, vi r] Q := by
  obtain ⟨A, S⟩ := S
  have W := S.1.1
  have C := S.1.2.1
  have eC := S.1.2.2.1.2.2.1
  have zz := S.zz
  have z19 := S.c19
  refine AC.mk (by decide) (Nat.le_of_ble_eq_true rfl) ?_
  by_cases hr : ¬ (0 ≤ r ∧ r < Z 19 0)
  · refine AW.aload_n dX7_standing_0 rfl ?_
    refine AW.iload_n dX7_standing_1 rfl ?_
    refine AW.callV (as := [vi _]) dX7_standing_2 rfl rfl rfl okX7_rowAt lkX7_298 W.o rfl rfl rfl rfl rfl rfl rfl (kX7_rowAt W C (fun _ => k1 (fun z => hr ⟨z.1, by omega⟩)) (fun z => absurd (eC ▸ z) hr))
    skip
  have hr := Classical.not_not.mp hr
  obtain ⟨r, rfl⟩ := Int.eq_ofNat_of_zero_le hr.1
  have Rr := S.2.2.2.2.1 r hr.2
  have RWr := Rr.1
  have r2 := Rr.2.1
  have R3 := Rr.2.2.1
  have r3 := Rr.2.2.1.1
  have V13 := R3.2.1
  obtain ⟨S1, K, -⟩ := S.sc (s := (Z 20 r).toNat) (by omega)
  have b1 := K.b1
  have cb := cbx_eq R3
  have cr := cbxA_rng (h := h) (a := 13) (b := r) 48
  refine AW.aload_n dX7_standing_0 rfl ?_
  refine AW.iload_n dX7_standing_1 rfl ?_
  refine AW.callV (as := [vi _]) dX7_standing_2 rfl rfl rfl okX7_rowAt lkX7_298 W.o rfl rfl rfl rfl rfl rfl rfl (kX7_rowN W C (by rw [eC]; exact hr.2) (AW.k1 ?_))
  refine AW.astore_n dX7_standing_5 rfl ?_
  refine AW.sipush dX7_standing_6 sp_10000 (by decide) ?_
  refine AW.aload_n dX7_standing_9 rfl ?_
  refine AW.getRE (j := 1) RWr.o dX7_standing_10 lkX7_320 rfl rfl inC4 rfl RWr.r1 ?_
  refine AW.getIE (j := 0) V13.o dX7_standing_13 lkX7_323 rfl rfl inC6 rfl (by exact r3.1) ?_
  refine AW.imulB dX7_standing_16 (by omega) ?_
  refine AW.bipush dX7_standing_17 bp_100 (by decide) ?_
  refine AW.aload_n dX7_standing_19 rfl ?_
  refine AW.getRE (j := 1) RWr.o dX7_standing_20 lkX7_320 rfl rfl inC4 rfl RWr.r1 ?_
  refine AW.callV (as := []) dX7_standing_23 rfl rfl rfl okX5_boxEntries lkX7_347 V13.o rfl rfl rfl rfl rfl rfl rfl (kX5_boxEntries V13 (AW.k1 ?_))
  refine AW.top (y := zstA Z r 24) cb ?_
  rw [cb] at cr
  refine AW.imulB dX7_standing_26 (by omega) ?_
  refine AW.iaddB dX7_standing_27 (by omega) ?_
  refine AW.aload_n dX7_standing_28 rfl ?_
  refine AW.getRE (j := 1) RWr.o dX7_standing_29 lkX7_320 rfl rfl inC4 rfl RWr.r1 ?_
  refine AW.getIE (j := 1) V13.o dX7_standing_32 lkX7_350 rfl rfl inC6 rfl (by exact R3.2.2.1) ?_
  refine AW.iadd dX7_standing_35 ?_
  refine AW.iret dX7_standing_36 rfl ?_
  exact k0 ⟨by omega, by omega⟩
/-- acts counted -/
theorem zcnt_27 (S : SIMq A 9 h Z c) (hc : c < 512) {Y : ZT} (e : Y 27 0 = Z 27 0) : wr (Y 27 0 + 1) = Z 27 0 + 1 := by
  have := S.1.2.2.2.2.2
  rw [e, wr_id ⟨by omega, by omega⟩]
set_option maxHeartbeats 1000000 in
theorem sX7_set {r n x : Int} (S : SIM h Z c) (B : ZB Z) (hc : c < 512) (k1 : zcSet Z r n x = 1 → Q h (.inr eIx)) (k2 : zcSet Z r n x = 2 → Q h (.inr eIa))
    (k0 : zcSet Z r n x = 0 → ∀ g, SIM g (zSet Z r n x) (c + 1) → Fr nMo h g → Q g (.inl (some (vi (Z 22 (48 * r + zinR Z r n).toNat))))) : AC mX7_set fX7_set loX7_set 4 24 h [vr mF, vi r, vi n, vi x] Q := by
  obtain ⟨A, S⟩ := S
  have W := S.1.1
  have C := S.1.2.1
  have eC := S.1.2.2.1.2.2.1
  have zz := S.zz
  have z19 := S.c19
  refine AC.mk (by decide) (Nat.le_of_ble_eq_true rfl) ?_
  by_cases hr : ¬ (0 ≤ r ∧ r < Z 19 0)
  · have e1 : zcSet Z r n x = 1 := cd2_1 (by unfold zinR; rw [if_neg (fun z => hr ⟨z.1, by omega⟩)])
    refine AW.aload_n dX7_set_0 rfl ?_
    refine AW.iload_n dX7_set_1 rfl ?_
    refine AW.callV (as := [vi _]) dX7_set_2 rfl rfl rfl okX7_rowAt lkX7_298 W.o rfl rfl rfl rfl rfl rfl rfl (kX7_rowAt W C (fun _ => k1 e1) (fun z => absurd (eC ▸ z) hr))
    skip
  have hr := Classical.not_not.mp hr
  obtain ⟨r, rfl⟩ := Int.eq_ofNat_of_zero_le hr.1
  have Rr := S.2.2.2.2.1 r hr.2
  have Rr0 := Rr
  obtain ⟨RWr, r2, R3, r4, r5, r6, r7⟩ := Rr
  have r3 := R3.1
  have V13 := R3.2.1
  obtain ⟨S1, K, SQ1⟩ := S.sc (s := (Z 20 r).toNat) (by omega)
  have SQ1 := SQ1 (by omega)
  have b1 := K.b1
  have b2 := K.b2
  have W5 := S1.1
  have B5 := S1.sb K (by rw [SQ1.1]; exact SQ1.2.1)
  have rF := S1.fr K (v := Z 21 r) (n := n)
  have eV := RR.fnd (n := n) S hr.2
  have e20 : (((Z 20 r).toNat : Nat) : Int) = Z 20 r := by omega
  have eS : zcSok Z r n x = bz (¬ zinR Z r n = -1 ∧ ((0 ≤ x ∧ x ≤ zmost (Z 3 (48 * Z 20 r + zinR Z r n).toNat)) ∨ (x = -1 ∧ Z 6 (48 * (24 * Z 20 r + Z 21 r) + zinR Z r n).toNat = 0))) := rfl
  have eSet : zSet Z r n x = zcnt (zs (zs Z 48 0 0) 22 (48 * (r : Int) + zinR Z r n).toNat x) r := rfl
  rw [eV] at k0 eS eSet
  generalize eF : cfn h (Z 20 r).toNat (Z 21 r) n = F at k0 eS eSet rF eV
  by_cases hF : F = -1
  · have e1 : zcSet Z r n x = 1 := cd2_1 (by rw [eV]; exact hF)
    refine AW.aload_n dX7_set_0 rfl ?_
    refine AW.iload_n dX7_set_1 rfl ?_
    refine AW.callV (as := [vi _]) dX7_set_2 rfl rfl rfl okX7_rowAt lkX7_298 W.o rfl rfl rfl rfl rfl rfl rfl (kX7_rowN W C (by rw [eC]; exact hr.2) (AW.k1 ?_))
    refine AW.astore dX7_set_5 rfl ?_
    refine AW.aload dX7_set_7 rfl ?_
    refine AW.getRE (j := 0) RWr.o dX7_set_9 lkX7_302 rfl rfl inC4 rfl RWr.r0 ?_
    refine AW.aload dX7_set_12 rfl ?_
    refine AW.getRE (j := 1) RWr.o dX7_set_14 lkX7_320 rfl rfl inC4 rfl RWr.r1 ?_
    refine AW.getIE (j := 0) V13.o dX7_set_17 lkX7_323 rfl rfl inC6 rfl (by exact r3.1) ?_
    refine AW.iload_n dX7_set_20 rfl ?_
    refine AW.callS (as := [vq _, vi _, vi _]) dX7_set_21 rfl rfl rfl okX7_fieldAt lkX7_341 rfl rfl rfl rfl rfl rfl (kX7_fieldAt W5 B5 (fun _ => k1 e1) (fun z => absurd (by rw [eF]; exact hF) z))
    skip
  obtain ⟨rv, rn, rF0, rF1, rF5⟩ := rF.resolve_left hF
  have c1 : ¬ zinR Z r n = -1 := by rw [eV]; exact hF
  have ekd : ckd h (Z 20 r).toNat F = Z 3 (48 * Z 20 r + F).toNat := by
    rw [S1.eck ⟨by omega, rF1⟩]; unfold zkof; rw [if_neg hF, e20]
  have kF := (K.2.2.2.1 F.toNat (by omega))
  have ek2 : (48 * Z 20 r + F).toNat = 48 * (Z 20 r).toNat + F.toNat := by omega
  rw [← ek2] at kF
  have end_ : cnd h (Z 20 r).toNat (Z 21 r) F = Z 6 (48 * (24 * Z 20 r + Z 21 r) + F).toNat := by
    have y := S1.ndq K B.1.2.1 (v := (Z 21 r).toNat) (f := F) (by omega) ⟨by omega, by omega⟩ (by omega)
    rw [show (((Z 21 r).toNat : Nat) : Int) = Z 21 r by omega, show 48 * (24 * (Z 20 r).toNat + (Z 21 r).toNat) + F.toNat = (48 * (24 * Z 20 r + Z 21 r) + F).toNat by omega] at y
    exact y
  have fin : ∀ y, zcSok Z r n x = 1 → y = Z 22 (48 * (r : Int) + F).toNat → Q (sI (cpt h 13 r F x) (9, r, 0) 2 (-1)) (.inl (some (vi y))) := by
    intro y hok hy
    have e0 : zcSet Z r n x = 0 := cd2_z c1 (by omega)
    subst hy
    refine k0 e0 _ ⟨A, ?_⟩ ?_
    · rw [eSet]
      have e48 : (48 * (r : Int) + F).toNat = 48 * r + F.toNat := by omega
      rw [e48]
      have S0 : SIMq A 9 h (zs Z 48 0 0) c := S.zj zs48_j
      have w27 : wr (zs (zs Z 48 0 0) 22 (48 * r + F.toNat) x 27 0 + 1) = Z 27 0 + 1 := zcnt_27 S hc rfl
      have a27 := S.1.2.2.2.2.2
      have y26 : zcnt (zs (zs Z 48 0 0) 22 (48 * r + F.toNat) x) r 26 r = Z 27 0 + 1 := by unfold zcnt; rw [w27]; exact zs_eq rfl rfl
      have y27 : zcnt (zs (zs Z 48 0 0) 22 (48 * r + F.toNat) x) r 27 0 = Z 27 0 + 1 := by unfold zcnt; rw [w27]; exact zs_ne rfl (zs_eq rfl rfl)
      have y26x : ∀ q : Nat, ¬ q = r → zcnt (zs (zs Z 48 0 0) 22 (48 * r + F.toNat) x) r 26 q = Z 26 q := fun q hq => by unfold zcnt; exact zs_miss hq (zs_ne rfl (zs_ne rfl (zs_ne rfl rfl)))
      have yo : ∀ j, ¬ j = 22 → ¬ j = 26 → ¬ j = 27 → ¬ j = 48 → zcnt (zs (zs Z 48 0 0) 22 (48 * r + F.toNat) x) r j = Z j := fun j h22 h26 h27 h48 => by unfold zcnt; rw [zs_oj (beq_ne h26), zs_oj (beq_ne h27), zs_oj (beq_ne h22), zs_oj (beq_ne h48)]
      have y22 : ∀ q f : Nat, f < 48 → zcnt (zs (zs Z 48 0 0) 22 (48 * r + F.toNat) x) r 22 (48 * q + f) = if q = r ∧ (f : Int) = F then x else Z 22 (48 * q + f) := fun q f hf => by
        unfold zcnt
        by_cases z : q = r ∧ (f : Int) = F
        · rw [if_pos z]; exact zs_ne rfl (zs_ne rfl (zs_eq (by omega) rfl))
        · rw [if_neg z]; exact zs_ne rfl (zs_ne rfl (zs_miss (by omega) (zs_ne rfl rfl)))
      generalize zcnt (zs (zs Z 48 0 0) 22 (48 * r + F.toNat) x) r = Y at *
      have F1 : Fr (fun n => ¬ n = (13, r, 1) ∧ ¬ n = (9, r, 0)) h (sI (cpt h 13 r F x) (9, r, 0) 2 (-1)) := by
        unfold cpt; split
        · exact (Fr.rf.wI (fun z => z.1 rfl)).wI (fun z => z.2 rfl)
        · exact Fr.rf.wI (fun z => z.2 rfl)
      have eT : hT (sI (cpt h 13 r F x) (9, r, 0) 2 (-1)) = hT h := by unfold cpt; split <;> rfl
      have eR : hR (sI (cpt h 13 r F x) (9, r, 0) 2 (-1)) = hR h := by unfold cpt; split <;> rfl
      have F2 : Fr (nRw (Z 20 r).toNat r) h (sI (cpt h 13 r F x) (9, r, 0) 2 (-1)) := F1.mo (fun n z => ⟨fun w => z.2.1 (by rw [w]; exact ⟨rfl, rfl⟩), z.2.2.1⟩)
      have n14 : ∀ k j : Nat, (fun n : Nm => ¬ n = (13, r, 1) ∧ ¬ n = (9, r, 0)) (14, k, j) := fun k j => ⟨by simp, by simp⟩
      refine S.rw F2 (by omega) hr.2 (by unfold StaW; rw [eT, eR]; exact S.1.2.2.2.1) (by unfold SchW; rw [eT, eR]; exact W5) (fun j hj => yo j (by intro e; subst e; exact absurd hj (by decide)) (by intro e; subst e; exact absurd hj (by decide)) (by intro e; subst e; exact absurd hj (by decide)) (by intro e; subst e; exact absurd hj (by decide)))
        (fun q hq => ⟨by rw [yo 20 (by decide) (by decide) (by decide) (by decide)], fun hne => ⟨y26x q hne, by rw [yo 21 (by decide) (by decide) (by decide) (by decide)], by rw [yo 23 (by decide) (by decide) (by decide) (by decide)], fun f hf => by rw [y22 q f hf, if_neg (fun z => hne z.1)], fun _ _ => by rw [yo 24 (by decide) (by decide) (by decide) (by decide)], fun _ _ => by rw [yo 25 (by decide) (by decide) (by decide) (by decide)]⟩⟩) (by rw [y27]; omega) (by omega) ?_
      obtain ⟨⟨p1, p2, p3⟩, q1, q2, q3, q4⟩ := R3
      have o21 := yo 21 (by decide) (by decide) (by decide) (by decide)
      have g0 : ∀ i, hI (sI (cpt h 13 r F x) (9, r, 0) 2 (-1)) (13, r, 0) i = hI h (13, r, 0) i := fun i => F1.I ⟨by simp, by simp⟩ i
      have g2 : ∀ i, hI (sI (cpt h 13 r F x) (9, r, 0) 2 (-1)) (13, r, 2) i = hI h (13, r, 2) i := fun i => F1.I ⟨by simp, by simp⟩ i
      have g3 : ∀ i, hI (sI (cpt h 13 r F x) (9, r, 0) 2 (-1)) (13, r, 3) i = hI h (13, r, 3) i := fun i => F1.I ⟨by simp, by simp⟩ i
      have g9 : hI (sI (cpt h 13 r F x) (9, r, 0) 2 (-1)) (9, r, 0) 2 = -1 := hI_e rfl rfl
      unfold RR
      rw [yo 20 (by decide) (by decide) (by decide) (by decide), yo 0 (by decide) (by decide) (by decide) (by decide), yo 32 (by decide) (by decide) (by decide) (by decide), y26, y27, g9]
      refine ⟨by unfold RowW; rw [eT, eR]; exact RWr, r2, ⟨⟨by rw [g0, o21]; exact p1, by rw [o21]; exact p2, by rw [o21, yo 1 (by decide) (by decide) (by decide) (by decide)]; exact p3⟩, by unfold StaW; rw [eT, eR]; exact q1, by rw [g0, yo 23 (by decide) (by decide) (by decide) (by decide)]; exact q2, ?_, ?_⟩, ⟨by omega, by omega⟩, Int.le_refl _, ?_, fun z => absurd z (by decide)⟩
      · unfold RVl at q3 ⊢
        intro f hf
        rw [o21, yo 5 (by decide) (by decide) (by decide) (by decide), y22 r f (by omega), hI_n1 rfl (cpt_1 hf (by omega))]
        intro hp
        by_cases z : (f : Int) = F
        · rw [if_pos z, if_pos ⟨rfl, z⟩]
        · rw [if_neg z, if_neg (fun w => z w.2)]; exact q3 f hf hp
      · intro w hw
        exact RB1.c (q4 w hw) (g2 _) (g2 _) (fun j _ => g3 _) (by rw [yo 1 (by decide) (by decide) (by decide) (by decide)]) (by rw [yo 7 (by decide) (by decide) (by decide) (by decide)]) (by rw [yo 24 (by decide) (by decide) (by decide) (by decide)]) (fun j _ => by rw [yo 25 (by decide) (by decide) (by decide) (by decide)])
      · intro k hk hk2
        rw [yo 32 (by decide) (by decide) (by decide) (by decide)] at hk
        rw [yo 35 (by decide) (by decide) (by decide) (by decide)]
        have := (S.2.2.2.2.2.2 k hk).2.2.2.2.2.2.1
        constructor
        · intro z; omega
        · intro z; omega
    · unfold cpt; split
      · exact (Fr.rf.wI (fun z => by rcases z with z | z <;> simp at z)).wI (fun z => by rcases z with z | z <;> simp at z)
      · exact Fr.rf.wI (fun z => by rcases z with z | z <;> simp at z)
  have val : (if 0 ≤ F ∧ F < 46 then hI h (13, r, 1) F.toNat else -1) = Z 22 (48 * (r : Int) + F).toNat := by
    rw [if_pos (by omega), R3.2.2.2.1 F.toNat (by omega) (by omega)]; congr 1; omega
  refine AW.aload_n dX7_set_0 rfl ?_
  refine AW.iload_n dX7_set_1 rfl ?_
  refine AW.callV (as := [vi _]) dX7_set_2 rfl rfl rfl okX7_rowAt lkX7_298 W.o rfl rfl rfl rfl rfl rfl rfl (kX7_rowN W C (by rw [eC]; exact hr.2) (AW.k1 ?_))
  refine AW.astore dX7_set_5 rfl ?_
  refine AW.aload dX7_set_7 rfl ?_
  refine AW.getRE (j := 0) RWr.o dX7_set_9 lkX7_302 rfl rfl inC4 rfl RWr.r0 ?_
  refine AW.aload dX7_set_12 rfl ?_
  refine AW.getRE (j := 1) RWr.o dX7_set_14 lkX7_320 rfl rfl inC4 rfl RWr.r1 ?_
  refine AW.getIE (j := 0) V13.o dX7_set_17 lkX7_323 rfl rfl inC6 rfl (by exact r3.1) ?_
  refine AW.iload_n dX7_set_20 rfl ?_
  refine AW.callS (as := [vq _, vi _, vi _]) dX7_set_21 rfl rfl rfl okX7_fieldAt lkX7_341 rfl rfl rfl rfl rfl rfl (kX7_fieldAtE W5 B5 eF hF (AW.k1 ?_))
  refine AW.istore dX7_set_24 rfl ?_
  refine AW.iload_n dX7_set_26 rfl ?_
  refine AW.iconst dX7_set_27 (by decide) ?_
  refine' AW.icmp_neJ 57 (tgt := 56) dX7_set_28 rfl _ _ _
  rotate_left 2
  · intro c_28 k_28
    refine AW.iconst dX7_set_56 (by decide) ?_
    exact k_28
  · intro c_28 k_28
    refine AW.aload dX7_set_31 rfl ?_
    refine AW.getRE (j := 0) RWr.o dX7_set_33 lkX7_302 rfl rfl inC4 rfl RWr.r0 ?_
    refine AW.aload dX7_set_36 rfl ?_
    refine AW.getRE (j := 1) RWr.o dX7_set_38 lkX7_320 rfl rfl inC4 rfl RWr.r1 ?_
    refine AW.getIE (j := 0) V13.o dX7_set_41 lkX7_323 rfl rfl inC6 rfl (by exact r3.1) ?_
    refine AW.iload dX7_set_44 rfl ?_
    refine AW.callV (as := [vi _, vi _]) dX7_set_46 rfl rfl rfl okX4_isNeeded lkX7_112 W5.o rfl rfl rfl rfl rfl rfl rfl (kX4_isNeeded W5 B5 (AW.k1 ?_))
    refine' AW.if_neJ 57 (tgt := 56) dX7_set_49 rfl _ _ _
    rotate_left 2
    · intro c_49 k_49
      refine AW.iconst dX7_set_56 (by decide) ?_
      exact k_49
    · intro c_49 k_49
      refine AW.iconst dX7_set_52 (by decide) ?_
      refine AW.goto (tgt := 57) dX7_set_53 rfl ?_
      exact k_49
    exact k_28
  refine AW.top (y := bz (x = -1 ∧ Z 6 (48 * (24 * Z 20 r + Z 21 r) + F).toNat = 0)) (by rw [end_]; unfold bz; (repeat' split) <;> first | rfl | omega) ?_
  refine AW.istore dX7_set_57 rfl ?_
  refine AW.iload dX7_set_59 rfl ?_
  refine AW.if_ne (tgt := 92) dX7_set_61 rfl (fun c_61 => ?_) (fun c_61 => ?_)
  · have hok : zcSok Z r n x = 1 := by (rw [eS]; first | exact bz_1.mpr ⟨hF, Or.inr (bz_n0.mp c_61)⟩ | exact bz_1.mpr ⟨hF, Or.inl (bz_n0.mp c_78).2⟩)
    refine AW.aload dX7_set_92 rfl ?_
    refine AW.getRE (j := 1) RWr.o dX7_set_94 lkX7_320 rfl rfl inC4 rfl RWr.r1 ?_
    refine AW.iload dX7_set_97 rfl ?_
    refine AW.callV (as := [vi _]) dX7_set_99 rfl rfl rfl okX5_valueOf lkX7_309 V13.o rfl rfl rfl rfl rfl rfl rfl (kX5_valueOf V13 (AW.k1 ?_))
    refine AW.istore dX7_set_102 rfl ?_
    refine AW.aload dX7_set_104 rfl ?_
    refine AW.getRE (j := 1) RWr.o dX7_set_106 lkX7_320 rfl rfl inC4 rfl RWr.r1 ?_
    refine AW.iload dX7_set_109 rfl ?_
    refine AW.iload_n dX7_set_111 rfl ?_
    refine AW.callV (as := [vi _, vi _]) dX7_set_112 rfl rfl rfl okX5_put lkX7_316 V13.o rfl rfl rfl rfl rfl rfl rfl (kX5_put V13 (AW.k0 ?_))
    have RWq : RowW (cpt h 13 r F x) r (Z 20 r).toNat := by (unfold cpt; split <;> exact RWr)
    refine AW.aload dX7_set_115 rfl ?_
    refine AW.iconst dX7_set_117 (by decide) ?_
    refine AW.putI (j := 2) dX7_set_118 RWq.o rfl rfl inC4 lkX7_332 rfl (Or.inl rfl) (Or.inl rfl) ?_
    refine AW.iload dX7_set_121 rfl ?_
    refine AW.iret dX7_set_123 rfl ?_
    exact fin _ hok val
  · refine AW.aload dX7_set_64 rfl ?_
    refine AW.getRE (j := 0) RWr.o dX7_set_66 lkX7_302 rfl rfl inC4 rfl RWr.r0 ?_
    refine AW.iload dX7_set_69 rfl ?_
    refine AW.callV (as := [vi _]) dX7_set_71 rfl rfl rfl okX4_kindOf lkX7_120 W5.o rfl rfl rfl rfl rfl rfl rfl (kX4_kindOf W5 B5 (AW.k1 ?_))
    refine AW.top (y := Z 3 (48 * Z 20 r + F).toNat) ekd ?_
    refine AW.iload_n dX7_set_74 rfl ?_
    refine AW.callS (as := [vi _, vi _]) dX7_set_75 rfl rfl rfl okX7_isValue lkX7_66 rfl rfl rfl rfl rfl rfl (kX7_isValue  (AW.k1 ?_))
    refine AW.if_ne (tgt := 92) dX7_set_78 rfl (fun c_78 => ?_) (fun c_78 => ?_)
    · have hok : zcSok Z r n x = 1 := by (rw [eS]; first | exact bz_1.mpr ⟨hF, Or.inr (bz_n0.mp c_61)⟩ | exact bz_1.mpr ⟨hF, Or.inl (bz_n0.mp c_78).2⟩)
      refine AW.aload dX7_set_92 rfl ?_
      refine AW.getRE (j := 1) RWr.o dX7_set_94 lkX7_320 rfl rfl inC4 rfl RWr.r1 ?_
      refine AW.iload dX7_set_97 rfl ?_
      refine AW.callV (as := [vi _]) dX7_set_99 rfl rfl rfl okX5_valueOf lkX7_309 V13.o rfl rfl rfl rfl rfl rfl rfl (kX5_valueOf V13 (AW.k1 ?_))
      refine AW.istore dX7_set_102 rfl ?_
      refine AW.aload dX7_set_104 rfl ?_
      refine AW.getRE (j := 1) RWr.o dX7_set_106 lkX7_320 rfl rfl inC4 rfl RWr.r1 ?_
      refine AW.iload dX7_set_109 rfl ?_
      refine AW.iload_n dX7_set_111 rfl ?_
      refine AW.callV (as := [vi _, vi _]) dX7_set_112 rfl rfl rfl okX5_put lkX7_316 V13.o rfl rfl rfl rfl rfl rfl rfl (kX5_put V13 (AW.k0 ?_))
      have RWq : RowW (cpt h 13 r F x) r (Z 20 r).toNat := by (unfold cpt; split <;> exact RWr)
      refine AW.aload dX7_set_115 rfl ?_
      refine AW.iconst dX7_set_117 (by decide) ?_
      refine AW.putI (j := 2) dX7_set_118 RWq.o rfl rfl inC4 lkX7_332 rfl (Or.inl rfl) (Or.inl rfl) ?_
      refine AW.iload dX7_set_121 rfl ?_
      refine AW.iret dX7_set_123 rfl ?_
      exact fin _ hok val
    · refine AW.throwW dX7_set_81 dX7_set_84 dX7_set_85 dX7_set_88 dX7_set_91 rfl okTX7_70 strX7_345 rfl rfl rfl rfl rfl ?_
      exact k2 (cd2_2 c1 (by rw [eS]; exact bz_0.mpr (fun z => z.2.elim (fun w => bz_0.mp c_78 ⟨kF.2, w⟩) (fun w => (bz_0.mp c_61) w))))
end I2

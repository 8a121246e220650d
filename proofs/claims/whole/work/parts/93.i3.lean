/-! ===== the face: read, write ===== -/
section I3
variable {Q : AH → AO → Prop} {h g G : AH} {Z Y X : ZT} {c q s a b r x : Nat} {A : Nat → Nat}
/-- one value of a state -/
theorem RW.set {F x : Int} (R : RW h Z s a b q) (hF : 0 ≤ F ∧ F < 46) : RW (cpt h a b F x) (zs Z 22 (48 * q + F.toNat) x) s a b q := by
  obtain ⟨⟨p1, p2, p3⟩, q1, q2, q3, q4⟩ := R
  have z22 : ∀ f : Nat, f < 48 → zs Z 22 (48 * q + F.toNat) x 22 (48 * q + f) = if (f : Int) = F then x else Z 22 (48 * q + f) := fun f hf => by
    by_cases z : (f : Int) = F
    · rw [if_pos z, zs_eq (by omega) rfl]
    · rw [if_neg z, zs_miss (by omega) rfl]
  refine ⟨⟨by rw [cpt_o (by decide)]; exact p1, p2, p3⟩, ?_, by rw [cpt_o (by decide)]; exact q2, ?_, ?_⟩
  · unfold cpt; split <;> exact q1
  · unfold RVl at q3 ⊢
    intro f hf hp
    rw [z22 f (by omega), cpt_1 hf (by omega)]
    have hp : ¬ Z 5 (48 * (24 * s + (Z 21 q).toNat) + f) = -1 := hp
    by_cases z : (f : Int) = F
    · rw [if_pos z, if_pos z]
    · rw [if_neg z, if_neg z]; exact q3 f hf hp
  · intro w hw
    exact RB1.c (q4 w hw) (cpt_o (by decide)) (cpt_o (by decide)) (fun j _ => cpt_o (by decide)) rfl rfl rfl (fun _ _ => rfl)
set_option maxHeartbeats 1000000 in
theorem sX7_read {g r n : Int} (S : SIM h Z c) (B : ZB Z) (k1 : zcRea Z g r n = 1 → Q h (.inr eIx)) (k2 : zcRea Z g r n = 2 → Q h (.inr eIa))
    (k0 : zcRea Z g r n = 0 → ∀ g', SIM g' (zsee (zs Z 48 0 0) r (Z 15 g.toNat)) c → Fr nMo h g' → Q g' (.inl (some (vi (zsee (zs Z 48 0 0) r (Z 15 g.toNat) 22 (960 + zinF Z g n).toNat))))) : AC mX7_read fX7_read loX7_read 6 36 h [vr mF, vi g, vi r, vi n] Q := by
  obtain ⟨A, S⟩ := S
  have W := S.1.1
  have C := S.1.2.1
  have eC := S.1.2.2.1.2.1
  have eD := S.1.2.2.1.2.2.1
  have zz := S.zz
  have z13 := S.c13
  have z19 := S.c19
  have no1 : ¬ ((¬ zinF Z g n = -1 ∧ ¬ Z 17 (48 * g + zinF Z g n).toNat = 0) ∧ (0 ≤ r ∧ r ≤ Z 19 0 - 1)) → zcRea Z g r n = 1 := fun z => cd2_1 (bz_0.mpr z)
  refine AC.mk (by decide) (Nat.le_of_ble_eq_true rfl) ?_
  by_cases hg : ¬ (0 ≤ g ∧ g < Z 13 0)
  · have e1 := no1 (fun z => z.1.1 (by unfold zinF; rw [if_neg (by omega)]))
    refine AW.aload_n dX7_read_0 rfl ?_
    refine AW.iload_n dX7_read_1 rfl ?_
    refine AW.callV (as := [vi _]) dX7_read_2 rfl rfl rfl okX7_formAt lkX7_243 W.o rfl rfl rfl rfl rfl rfl rfl (kX7_formAt W C (fun _ => k1 e1) (fun z => absurd (eC ▸ z) hg))
    skip
  have hg := Classical.not_not.mp hg
  obtain ⟨k, rfl⟩ := Int.eq_ofNat_of_zero_le hg.1
  have FFk := S.2.2.2.1 k hg.2
  have Gk := (B.1.2.2.2.1.2 k (by omega)).2.2
  have eFi := FF.fnd (n := n) S hg.2 Gk
  obtain ⟨FW, F2, ⟨F3, F4⟩, F5, F6, F7⟩ := FFk
  by_cases hr : ¬ (0 ≤ r ∧ r < Z 19 0)
  · have e1 := no1 (fun z => hr ⟨z.2.1, by omega⟩)
    refine AW.aload_n dX7_read_0 rfl ?_
    refine AW.iload_n dX7_read_1 rfl ?_
    refine AW.callV (as := [vi _]) dX7_read_2 rfl rfl rfl okX7_formAt lkX7_243 W.o rfl rfl rfl rfl rfl rfl rfl (kX7_formN W C (by rw [eC]; exact hg.2) (AW.k1 ?_))
    refine AW.astore dX7_read_5 rfl ?_
    refine AW.aload_n dX7_read_7 rfl ?_
    refine AW.iload_n dX7_read_8 rfl ?_
    refine AW.callV (as := [vi _]) dX7_read_9 rfl rfl rfl okX7_rowAt lkX7_298 W.o rfl rfl rfl rfl rfl rfl rfl (kX7_rowAt W C (fun _ => k1 e1) (fun z => absurd (eD ▸ z) hr))
    skip
  have hr := Classical.not_not.mp hr
  obtain ⟨r, rfl⟩ := Int.eq_ofNat_of_zero_le hr.1
  have Rr := S.2.2.2.2.1 r hr.2
  have RWr := Rr.1
  have r2 := Rr.2.1
  have r3 := Rr.2.2.1.1
  obtain ⟨S1, K, SQ1⟩ := S.sc (s := (Z 14 k).toNat) (by omega)
  have SQ1 := SQ1 (by omega)
  have b1 := K.b1
  have b2 := K.b2
  have W5 := S1.1
  have B5 := S1.sb K (by rw [SQ1.1]; exact SQ1.2.1)
  have rF := S1.fr K (v := hI h (8, k, 0) 1) (n := n)
  rw [Int.toNat_natCast] at k0
  generalize eF : cfn h (Z 14 k).toNat (hI h (8, k, 0) 1) n = F at eFi rF
  have fb : ∀ f : Int, 0 ≤ f → f < 46 → (bt (hL h (8, k, 0) 3) f ↔ ¬ Z 17 (48 * (k : Int) + f).toNat = 0) := fun f f0 f1 => by
    have := (F5 f.toNat (by omega)).1
    rw [show ((f.toNat : Nat) : Int) = f by omega, show 48 * k + f.toNat = (48 * (k : Int) + f).toNat by omega] at this
    rw [this]
    exact ⟨fun z => z.2, fun z => ⟨by omega, z⟩⟩
  by_cases hh : F = -1 ∨ ¬ bt (hL h (8, k, 0) 3) F
  · have e1 := no1 (fun z => by
      have z := z.1
      rw [eFi] at z
      rcases hh with y | y
      · exact z.1 y
      · have := rF.resolve_left z.1
        exact y ((fb F (by omega) (by omega)).mpr z.2))
    refine AW.aload_n dX7_read_0 rfl ?_
    refine AW.iload_n dX7_read_1 rfl ?_
    refine AW.callV (as := [vi _]) dX7_read_2 rfl rfl rfl okX7_formAt lkX7_243 W.o rfl rfl rfl rfl rfl rfl rfl (kX7_formN W C (by rw [eC]; exact hg.2) (AW.k1 ?_))
    refine AW.astore dX7_read_5 rfl ?_
    refine AW.aload_n dX7_read_7 rfl ?_
    refine AW.iload_n dX7_read_8 rfl ?_
    refine AW.callV (as := [vi _]) dX7_read_9 rfl rfl rfl okX7_rowAt lkX7_298 W.o rfl rfl rfl rfl rfl rfl rfl (kX7_rowN W C (by rw [eD]; exact hr.2) (AW.k1 ?_))
    refine AW.astore dX7_read_12 rfl ?_
    refine AW.aload dX7_read_14 rfl ?_
    refine AW.iload_n dX7_read_16 rfl ?_
    refine AW.callS (as := [vq _, vi _]) dX7_read_17 rfl rfl rfl okX7_heldField lkX7_289 rfl rfl rfl rfl rfl rfl (kX7_heldField FW W5 B5 (by rw [eF]; omega) (fun _ => k1 e1) (fun z y => absurd hh (by rw [eF] at z y; exact fun w => w.elim z (fun w => w y))))
    skip
  have hF : ¬ F = -1 := fun z => hh (Or.inl z)
  have hb : bt (hL h (8, k, 0) 3) F := Classical.byContradiction (fun z => hh (Or.inr z))
  obtain ⟨rv, rn, rF0, rF1, rF5⟩ := rF.resolve_left hF
  have e0 : ¬ zhlc Z k n r = 0 := bz_n0.mpr ⟨⟨by rw [eFi]; exact hF, by rw [eFi]; exact (fb F rF0 (by omega)).mp hb⟩, by omega, by omega⟩
  have S0 : SIMq A 9 h (zs Z 48 0 0) c := S.zj zs48_j
  by_cases ho : Z 20 r = Z 14 k
  · have es : (Z 20 r).toNat = (Z 14 k).toNat := by rw [ho]
    have ok : zcRea Z k r n = 0 := cd2_z e0 (by rw [Int.toNat_natCast, Int.toNat_natCast]; exact fun z => z ho)
    have rv' : 0 ≤ Z 15 k ∧ Z 15 k ≤ Z 1 (Z 20 r).toNat := by rw [es]; exact Gk
    have RWo : RowW h r (Z 14 k).toNat := by rw [← es]; exact RWr
    refine AW.aload_n dX7_read_0 rfl ?_
    refine AW.iload_n dX7_read_1 rfl ?_
    refine AW.callV (as := [vi _]) dX7_read_2 rfl rfl rfl okX7_formAt lkX7_243 W.o rfl rfl rfl rfl rfl rfl rfl (kX7_formN W C (by rw [eC]; exact hg.2) (AW.k1 ?_))
    refine AW.astore dX7_read_5 rfl ?_
    refine AW.aload_n dX7_read_7 rfl ?_
    refine AW.iload_n dX7_read_8 rfl ?_
    refine AW.callV (as := [vi _]) dX7_read_9 rfl rfl rfl okX7_rowAt lkX7_298 W.o rfl rfl rfl rfl rfl rfl rfl (kX7_rowN W C (by rw [eD]; exact hr.2) (AW.k1 ?_))
    refine AW.astore dX7_read_12 rfl ?_
    refine AW.aload dX7_read_14 rfl ?_
    refine AW.iload_n dX7_read_16 rfl ?_
    refine AW.callS (as := [vq _, vi _]) dX7_read_17 rfl rfl rfl okX7_heldField lkX7_289 rfl rfl rfl rfl rfl rfl (kX7_heldFieldE FW W5 B5 eF ⟨by omega, by omega⟩ hb (AW.k1 ?_))
    refine AW.istore dX7_read_20 rfl ?_
    refine AW.aload dX7_read_22 rfl ?_
    refine AW.getRE (j := 0) RWo.o dX7_read_24 lkX7_302 rfl rfl inC4 rfl RWo.r0 ?_
    refine AW.aload dX7_read_27 rfl ?_
    refine AW.getRE (j := 0) FW.o dX7_read_29 lkX7_247 rfl rfl inC1 rfl FW.r0 ?_
    refine AW.acmp_eq (tgt := 46) dX7_read_32 rfl (fun c_32 => ?_) (fun c_32 => ?_)
    · refine AW.aload_n dX7_read_46 rfl ?_
      refine AW.aload dX7_read_47 rfl ?_
      refine AW.aload dX7_read_49 rfl ?_
      refine AW.getIE (j := 1) FW.o dX7_read_51 lkX7_251 rfl rfl inC1 rfl (by exact F3) ?_
      refine AW.callV (as := [vq _, vi _]) dX7_read_54 rfl rfl rfl okX7_see lkX7_305 W.o rfl rfl rfl rfl rfl rfl rfl (sX7_see (v := Z 15 k) S0 hr.2 rv' (fun g' F1 V1 B1 R1 => (AW.k0 ?_)))
      have S2 := X_see S0 (BB_zs rfl B.1.2.2.1) hr.2 rfl F1 V1 R1 ⟨rv'.1, by omega⟩
      have V12 := R1.2.1
      have FM : Fr nMo h g' := F1.mo nOf_mo
      have Wg := S2.1.1
      refine AW.aload_n dX7_read_57 rfl ?_
      refine AW.getRE (j := 5) Wg.o dX7_read_58 lkX7_42 rfl rfl inC8 rfl Wg.r5 ?_
      refine AW.iload dX7_read_61 rfl ?_
      refine AW.callV (as := [vi _]) dX7_read_63 rfl rfl rfl okX5_valueOf lkX7_309 V12.o rfl rfl rfl rfl rfl rfl rfl (kX5_valueOf V12 (AW.k1 ?_))
      refine AW.iret dX7_read_66 rfl ?_
      refine fin1 (k0 ok g' ⟨A, S2⟩ FM) rfl ?_
      rw [if_pos (by omega), eFi]
      have y := R1.2.2.2.1 F.toNat (by omega) (by rw [show zsee (zs Z 48 0 0) r (Z 15 k) 21 20 = Z 15 k from zsee_21, show zsee (zs Z 48 0 0) r (Z 15 k) 5 = Z 5 from zsee_o rfl]; show ¬ Z 5 (48 * (24 * (Z 20 r).toNat + (Z 15 k).toNat) + F.toNat) = -1; rw [es]; rw [F3] at rF5; omega)
      rw [y]
      congr 1
      omega
    · exact absurd rfl c_32
  · have bad : zcRea Z k r n = 2 := cd2_2 e0 (by rw [Int.toNat_natCast, Int.toNat_natCast]; exact ho)
    refine AW.aload_n dX7_read_0 rfl ?_
    refine AW.iload_n dX7_read_1 rfl ?_
    refine AW.callV (as := [vi _]) dX7_read_2 rfl rfl rfl okX7_formAt lkX7_243 W.o rfl rfl rfl rfl rfl rfl rfl (kX7_formN W C (by rw [eC]; exact hg.2) (AW.k1 ?_))
    refine AW.astore dX7_read_5 rfl ?_
    refine AW.aload_n dX7_read_7 rfl ?_
    refine AW.iload_n dX7_read_8 rfl ?_
    refine AW.callV (as := [vi _]) dX7_read_9 rfl rfl rfl okX7_rowAt lkX7_298 W.o rfl rfl rfl rfl rfl rfl rfl (kX7_rowN W C (by rw [eD]; exact hr.2) (AW.k1 ?_))
    refine AW.astore dX7_read_12 rfl ?_
    refine AW.aload dX7_read_14 rfl ?_
    refine AW.iload_n dX7_read_16 rfl ?_
    refine AW.callS (as := [vq _, vi _]) dX7_read_17 rfl rfl rfl okX7_heldField lkX7_289 rfl rfl rfl rfl rfl rfl (kX7_heldFieldE FW W5 B5 eF ⟨by omega, by omega⟩ hb (AW.k1 ?_))
    refine AW.istore dX7_read_20 rfl ?_
    refine AW.aload dX7_read_22 rfl ?_
    refine AW.getRE (j := 0) RWr.o dX7_read_24 lkX7_302 rfl rfl inC4 rfl RWr.r0 ?_
    refine AW.aload dX7_read_27 rfl ?_
    refine AW.getRE (j := 0) FW.o dX7_read_29 lkX7_247 rfl rfl inC1 rfl FW.r0 ?_
    refine AW.acmp_eq (tgt := 46) dX7_read_32 rfl (fun c_32 => ?_) (fun c_32 => ?_)
    · exact absurd (by have z := c_32; simp at z; omega) ho
    · refine AW.throwW dX7_read_35 dX7_read_38 dX7_read_39 dX7_read_42 dX7_read_45 rfl okTX7_70 strX7_303 rfl rfl rfl rfl rfl ?_
      exact k2 bad
/-- a row written -/
theorem X_wri {s : Nat} {v vr x F : Int} {g1 g2 : AH} (S : SIMq A 9 h Z c) (BZ : BB Z) (hc : c < 512) (hr : (r : Int) < Z 19 0) (es : (Z 20 r).toNat = s) (evr : Z 21 r = vr) (F1 : Fr (nOf s 12 0) h g1) (R1 : RW g1 (zsee (zs Z 48 0 0) r v) s 12 0 20) (hF : 0 ≤ F ∧ F < 46) (hv : 0 ≤ v ∧ v ≤ 23)
    (F2 : Fr (nOf s 12 0) (cpt g1 12 0 F x) g2) (V2 : SV g2 Z s) (R2 : RW g2 (zmt (zs (zsee (zs Z 48 0 0) r v) 22 (48 * 20 + F.toNat) x) ((20 : Nat) : Int) s vr) s 12 0 20) :
    SIMq A 9 (sI (ccp g2 13 r 12 0) (9, r, 0) 2 (-1)) (zcnt (zcpy (zmt (zs (zsee (zs Z 48 0 0) r v) 22 (48 * 20 + F.toNat) x) ((20 : Nat) : Int) s vr) 20 r) (r : Int)) (c + 1) ∧ Fr nMo h (sI (ccp g2 13 r 12 0) (9, r, 0) 2 (-1)) := by
  have z19 := S.c19
  have Rr := S.2.2.2.2.1 r hr
  obtain ⟨RWr, r2, R3, r4, r5, r6, r7⟩ := Rr
  have r3 := R3.1
  have V13 := R3.2.1
  obtain ⟨S1, K, -⟩ := S.sc (s := s) (by omega)
  have b1 := K.b1
  rw [es] at r3
  have Fc : Fr (nOf s 12 0) g1 (cpt g1 12 0 F x) := Fr.rf.kpt (fun j z => z.1 ⟨rfl, rfl⟩)
  have F3 : Fr (nOf s 12 0) h g2 := (F1.tr Fc).tr F2
  have q13 : ∀ j, nOf s 12 0 (13, r, j) := fun j => ⟨fun w => absurd w.1 (by simp), fun w => absurd w.1 (by simp)⟩
  have V13' : StaW g2 13 r := V13.f F3 q13
  have F4 : Fr (nRw s r) h (sI (ccp g2 13 r 12 0) (9, r, 0) 2 (-1)) := (F3.nR).tr ((Fr.rf.kccp (fun j z => z.2.1 ⟨rfl, rfl⟩)).wI (fun z => z.2.2.1 rfl))
  have eT : hT (sI (ccp g2 13 r 12 0) (9, r, 0) 2 (-1)) = hT g2 := rfl
  have eR : hR (sI (ccp g2 13 r 12 0) (9, r, 0) 2 (-1)) = hR g2 := rfl
  -- the model's rows
  generalize eY1 : zmt (zs (zsee (zs Z 48 0 0) r v) 22 (48 * 20 + F.toNat) x) ((20 : Nat) : Int) s vr = Y1 at *
  have y1o : ∀ j, (j != 20 && offR j) = true → Y1 j = zs Z 48 0 0 j := fun j hj => by
    have hj2 : offR j = true := by rw [Bool.and_eq_true] at hj; exact hj.2
    have h22 : ¬ j = 22 := fun e => by subst e; exact absurd hj2 (by decide)
    rw [← eY1, zmt_o hj2, zs_oj (beq_ne h22), zsee_o hj]
  have w27 : ∀ Y : ZT, Y 27 0 = Z 27 0 → wr (Y 27 0 + 1) = Z 27 0 + 1 := fun Y e => zcnt_27 S hc e
  have c27 : zcpy Y1 20 r 27 0 = Z 27 0 := by rw [zcpy_o rfl, y1o 27 rfl]; rfl
  have y27 : zcnt (zcpy Y1 20 r) (r : Int) 27 0 = Z 27 0 + 1 := by unfold zcnt; rw [w27 _ c27]; exact zs_ne rfl (zs_eq rfl rfl)
  have y26 : zcnt (zcpy Y1 20 r) (r : Int) 26 r = Z 27 0 + 1 := by unfold zcnt; rw [w27 _ c27, Int.toNat_natCast]; exact zs_eq rfl rfl
  have y26x : ∀ q : Nat, ¬ q = r → zcnt (zcpy Y1 20 r) (r : Int) 26 q = Z 26 q := fun q hq => by
    unfold zcnt
    rw [Int.toNat_natCast]
    refine zs_miss hq (zs_ne rfl ?_)
    rw [zcpy_o rfl, y1o 26 rfl]; rfl
  have yc : ∀ j, ¬ j = 26 → ¬ j = 27 → zcnt (zcpy Y1 20 r) (r : Int) j = zcpy Y1 20 r j := fun j h26 h27 => by unfold zcnt; rw [zs_oj (beq_ne h26), zs_oj (beq_ne h27)]
  have yo : ∀ j, rwj j = false → zcnt (zcpy Y1 20 r) (r : Int) j = Z j := fun j hj => by
    have hne : ∀ k, rwj k = true → ¬ j = k := fun k hk e => by rw [e, hk] at hj; exact absurd hj (by decide)
    have hof : (j != 20 && offR j) = true := by
      unfold offR
      simp [hne 20 rfl, hne 21 rfl, hne 22 rfl, hne 23 rfl, hne 24 rfl, hne 25 rfl]
    rw [yc j (hne 26 rfl) (hne 27 rfl), zcpy_o hof, y1o j hof, zs_oj (beq_ne (hne 48 rfl))]
  have y1x : ∀ x' : Nat, x' < 20 → Y1 20 x' = Z 20 x' ∧ zRw Y1 Z x' := fun x' hx => by
    have a1 : zRw (zsee (zs Z 48 0 0) r v) (zs Z 48 0 0) x' := zsee_x (BB_zs rfl BZ) (by omega) hv (by have : zs Z 48 0 0 21 r = Z 21 r := rfl; rw [this]; omega)
    have a0 : zRw (zs Z 48 0 0) Z x' := zRw.o rfl
    have a2 : zRw (zs (zsee (zs Z 48 0 0) r v) 22 (48 * 20 + F.toNat) x) (zsee (zs Z 48 0 0) r v) x' := zRw.z22 (fun f hf => by omega)
    have a3 : zRw Y1 (zs (zsee (zs Z 48 0 0) r v) 22 (48 * 20 + F.toNat) x) x' := by
      rw [← eY1]
      refine zRw.mt (q := 20) (BB_zs rfl (BB_c (zsee_o rfl) (zsee_o rfl) (BB_zs rfl BZ))) (by omega) (by omega) ?_
      have : zs (zsee (zs Z 48 0 0) r v) 22 (48 * 20 + F.toNat) x 21 20 = v := (zs_ne rfl (zsee_21 (Z := zs Z 48 0 0) (r := r) (v := v)))
      rw [this]; exact hv
    refine ⟨?_, ((a0.tr a1).tr a2).tr a3⟩
    rw [← eY1, zmt_o rfl]
    exact zs_ne rfl (zsee_20x (by omega))
  have y20 : Y1 20 20 = Z 20 r := by
    rw [← eY1, zmt_o rfl]
    refine zs_ne rfl ?_
    unfold zsee
    rw [zmt_o rfl, Int.toNat_natCast]
    exact zcpy_20
  have R5 := R2.cpy (a' := 13) (b' := r) (q' := r) V13' (by decide)
  have sv : zSv (zcnt (zcpy Y1 20 r) (r : Int)) Z := fun j hj => yo j (by
    simp only [Bool.or_eq_true, beq_iff_eq] at hj
    rcases hj with ((((((((h | h) | h) | h) | h) | h) | h) | h) | h) | h <;> subst h <;> rfl)
  have q12 : StaW g2 12 0 := R2.2.1
  refine ⟨?_, ?_⟩
  · refine S.rw F4 (by omega) hr q12 V2.1 yo (fun x' hx => ?_) (by rw [y27]; have := S.1.2.2.2.2.2; omega) (by omega) ?_
    · obtain ⟨u0, u1⟩ := y1x x' hx
      by_cases z : x' = r
      · subst z
        refine ⟨?_, fun w => absurd rfl w⟩
        rw [yc 20 (by decide) (by decide), (zcpy_n (Z := Y1) (q := 20) (q' := x')).1, y20]
      · refine ⟨?_, fun _ => ⟨y26x x' z, ?_⟩⟩
        · rw [yc 20 (by decide) (by decide), (zcpy_x z).1, u0]
        · refine u1.tr ((zRw.cy z).tr (zRw.fn (fun j hj => yc j (fun e => by subst e; exact absurd hj (by decide)) (fun e => by subst e; exact absurd hj (by decide)))))
    · have y20r : zcnt (zcpy Y1 20 r) (r : Int) 20 r = Z 20 r := by rw [yc 20 (by decide) (by decide), (zcpy_n (Z := Y1) (q := 20) (q' := r)).1, y20]
      have g9 : hI (sI (ccp g2 13 r 12 0) (9, r, 0) 2 (-1)) (9, r, 0) 2 = -1 := hI_e rfl rfl
      unfold RR
      rw [y20r, yo 0 rfl, yo 32 rfl, yo 34 rfl, y26, y27, g9, es]
      refine ⟨?_, by omega, ?_, ⟨by omega, by omega⟩, Int.le_refl _, ?_, fun z => absurd z (by decide)⟩
      · rw [es] at RWr
        have q9 : nOf s 12 0 (9, r, 0) := ⟨fun w => absurd w.1 (by simp), fun w => absurd w.1 (by simp)⟩
        exact (show RowW g2 r s from RWr.f F3 q9)
      · have R6 : RW (ccp g2 13 r 12 0) (zcnt (zcpy Y1 20 r) (r : Int)) s 13 r r := R5.zc (by rw [yc 1 (by decide) (by decide)]) (yc 5 (by decide) (by decide)) (yc 7 (by decide) (by decide)) (by rw [yc 21 (by decide) (by decide)]) (fun _ _ => by rw [yc 22 (by decide) (by decide)]) (by rw [yc 23 (by decide) (by decide)]) (fun _ _ => by rw [yc 24 (by decide) (by decide)]) (fun _ _ => by rw [yc 25 (by decide) (by decide)])
        exact R6.f (P := fun n => ¬ n = (9, r, 0)) (Fr.rf.wI (fun z => z rfl)) (fun j => by simp)
      · intro k hk hk2
        rw [yo 32 rfl] at hk
        rw [yo 35 rfl]
        have := (S.2.2.2.2.2.2 k hk).2.2.2.2.2.2.1
        constructor
        · intro z; omega
        · intro z; omega
  · exact (F3.mo nOf_mo).tr ((Fr.rf.kccp (fun j z => by rcases z with z | z <;> simp at z)).wI (fun z => by rcases z with z | z <;> simp at z))
theorem zsee_sv {v : Int} : zSv (zsee (zs Z 48 0 0) r v) Z := fun j hj => by
  rw [zsee_o (by
    simp only [Bool.or_eq_true, beq_iff_eq] at hj
    rcases hj with ((((((((h | h) | h) | h) | h) | h) | h) | h) | h) | h <;> subst h <;> rfl)]
  exact zs_oj (beq_ne (fun e => by subst e; exact absurd hj (by decide)))
theorem K2 (S : SIMq A 9 h Z c) (hr : (r : Int) < Z 19 0) : ZS Z (Z 20 r).toNat := by
  have r2 := (S.2.2.2.2.1 r hr).2.1
  exact (S.sc (s := (Z 20 r).toNat) (by omega)).2.1
set_option maxHeartbeats 1000000 in
theorem sX7_write {g r n x : Int} (S : SIM h Z c) (B : ZB Z) (hc : c < 512) (k1 : zcWri Z g r n x = 1 → Q h (.inr eIx)) (k2 : zcWri Z g r n x = 2 → Q h (.inr eIa)) (k3 : zcWri Z g r n x = 3 → Q h (.inr eIs))
    (k0 : zcWri Z g r n x = 0 → ∀ g', SIM g' (zWri (zs Z 48 0 0) g r n x) (c + 1) → Fr nMo h g' → Q g' (.inl (some (vi (zsee (zs Z 48 0 0) r (Z 15 g.toNat) 22 (960 + zinF Z g n).toNat))))) : AC mX7_write fX7_write loX7_write 6 36 h [vr mF, vi g, vi r, vi n, vi x] Q := by
  obtain ⟨A, S⟩ := S
  have W := S.1.1
  have C := S.1.2.1
  have eC := S.1.2.2.1.2.1
  have eD := S.1.2.2.1.2.2.1
  have zz := S.zz
  have z13 := S.c13
  have z19 := S.c19
  have no1 : ¬ ((¬ zinF Z g n = -1 ∧ ¬ Z 17 (48 * g + zinF Z g n).toNat = 0) ∧ (0 ≤ r ∧ r ≤ Z 19 0 - 1)) → zcWri Z g r n x = 1 := fun z => cd3_1 (bz_0.mpr z)
  refine AC.mk (by decide) (Nat.le_of_ble_eq_true rfl) ?_
  by_cases hg : ¬ (0 ≤ g ∧ g < Z 13 0)
  · have e1 := no1 (fun z => z.1.1 (by unfold zinF; rw [if_neg (by omega)]))
    refine AW.aload_n dX7_write_0 rfl ?_
    refine AW.iload_n dX7_write_1 rfl ?_
    refine AW.callV (as := [vi _]) dX7_write_2 rfl rfl rfl okX7_formAt lkX7_243 W.o rfl rfl rfl rfl rfl rfl rfl (kX7_formAt W C (fun _ => k1 e1) (fun z => absurd (eC ▸ z) hg))
    skip
  have hg := Classical.not_not.mp hg
  obtain ⟨k, rfl⟩ := Int.eq_ofNat_of_zero_le hg.1
  have FFk := S.2.2.2.1 k hg.2
  have Gk := (B.1.2.2.2.1.2 k (by omega)).2.2
  have eFi := FF.fnd (n := n) S hg.2 Gk
  obtain ⟨FW, F2, ⟨F3, F4⟩, F5, F6, F7⟩ := FFk
  by_cases hr : ¬ (0 ≤ r ∧ r < Z 19 0)
  · have e1 := no1 (fun z => hr ⟨z.2.1, by omega⟩)
    refine AW.aload_n dX7_write_0 rfl ?_
    refine AW.iload_n dX7_write_1 rfl ?_
    refine AW.callV (as := [vi _]) dX7_write_2 rfl rfl rfl okX7_formAt lkX7_243 W.o rfl rfl rfl rfl rfl rfl rfl (kX7_formN W C (by rw [eC]; exact hg.2) (AW.k1 ?_))
    refine AW.astore dX7_write_5 rfl ?_
    refine AW.aload_n dX7_write_7 rfl ?_
    refine AW.iload_n dX7_write_8 rfl ?_
    refine AW.callV (as := [vi _]) dX7_write_9 rfl rfl rfl okX7_rowAt lkX7_298 W.o rfl rfl rfl rfl rfl rfl rfl (kX7_rowAt W C (fun _ => k1 e1) (fun z => absurd (eD ▸ z) hr))
    skip
  have hr := Classical.not_not.mp hr
  obtain ⟨r, rfl⟩ := Int.eq_ofNat_of_zero_le hr.1
  have Rr := S.2.2.2.2.1 r hr.2
  have RWr := Rr.1
  have r2 := Rr.2.1
  have R3 := Rr.2.2.1
  have r3 := Rr.2.2.1.1
  have V13 := R3.2.1
  obtain ⟨S1, K, SQ1⟩ := S.sc (s := (Z 14 k).toNat) (by omega)
  have SQ1 := SQ1 (by omega)
  have b1 := K.b1
  have b2 := K.b2
  have W5 := S1.1
  have B5 := S1.sb K (by rw [SQ1.1]; exact SQ1.2.1)
  have rF := S1.fr K (v := hI h (8, k, 0) 1) (n := n)
  rw [Int.toNat_natCast] at k0
  generalize eF : cfn h (Z 14 k).toNat (hI h (8, k, 0) 1) n = F at eFi rF
  have fb : ∀ f : Int, 0 ≤ f → f < 46 → (bt (hL h (8, k, 0) 3) f ↔ ¬ Z 17 (48 * (k : Int) + f).toNat = 0) := fun f f0 f1 => by
    have := (F5 f.toNat (by omega)).1
    rw [show ((f.toNat : Nat) : Int) = f by omega, show 48 * k + f.toNat = (48 * (k : Int) + f).toNat by omega] at this
    rw [this]
    exact ⟨fun z => z.2, fun z => ⟨by omega, z⟩⟩
  by_cases hh : F = -1 ∨ ¬ bt (hL h (8, k, 0) 3) F
  · have e1 := no1 (fun z => by
      have z := z.1
      rw [eFi] at z
      rcases hh with y | y
      · exact z.1 y
      · have := rF.resolve_left z.1
        exact y ((fb F (by omega) (by omega)).mpr z.2))
    refine AW.aload_n dX7_write_0 rfl ?_
    refine AW.iload_n dX7_write_1 rfl ?_
    refine AW.callV (as := [vi _]) dX7_write_2 rfl rfl rfl okX7_formAt lkX7_243 W.o rfl rfl rfl rfl rfl rfl rfl (kX7_formN W C (by rw [eC]; exact hg.2) (AW.k1 ?_))
    refine AW.astore dX7_write_5 rfl ?_
    refine AW.aload_n dX7_write_7 rfl ?_
    refine AW.iload_n dX7_write_8 rfl ?_
    refine AW.callV (as := [vi _]) dX7_write_9 rfl rfl rfl okX7_rowAt lkX7_298 W.o rfl rfl rfl rfl rfl rfl rfl (kX7_rowN W C (by rw [eD]; exact hr.2) (AW.k1 ?_))
    refine AW.astore dX7_write_12 rfl ?_
    refine AW.aload dX7_write_14 rfl ?_
    refine AW.iload_n dX7_write_16 rfl ?_
    refine AW.callS (as := [vq _, vi _]) dX7_write_17 rfl rfl rfl okX7_heldField lkX7_289 rfl rfl rfl rfl rfl rfl (kX7_heldField FW W5 B5 (by rw [eF]; omega) (fun _ => k1 e1) (fun z y => absurd hh (by rw [eF] at z y; exact fun w => w.elim z (fun w => w y))))
    skip
  have hF : ¬ F = -1 := fun z => hh (Or.inl z)
  have hb : bt (hL h (8, k, 0) 3) F := Classical.byContradiction (fun z => hh (Or.inr z))
  obtain ⟨rv, rn, rF0, rF1, rF5⟩ := rF.resolve_left hF
  have z17 := (fb F rF0 (by omega)).mp hb
  have e0 : ¬ zhlc Z k n r = 0 := bz_n0.mpr ⟨⟨by rw [eFi]; exact hF, by rw [eFi]; exact z17⟩, by omega, by omega⟩
  have fw : bt (hL h (8, k, 0) 4) F ↔ ¬ Z 18 (48 * (k : Int) + F).toNat = 0 := by
    have := (F5 F.toNat (by omega)).2
    rw [show ((F.toNat : Nat) : Int) = F by omega, show 48 * k + F.toNat = (48 * (k : Int) + F).toNat by omega] at this
    rw [this]
    exact ⟨fun z => z.2.2, fun z => ⟨by omega, z17, z⟩⟩
  have S0 : SIMq A 9 h (zs Z 48 0 0) c := S.zj zs48_j
  have e14 : (((Z 14 k).toNat : Nat) : Int) = Z 14 k := by omega
  have ekd : ckd h (Z 14 k).toNat F = Z 3 (48 * Z 14 k + F).toNat := by
    rw [S1.eck ⟨by omega, rF1⟩]; unfold zkof; rw [if_neg hF, e14]
  have kF := (K.2.2.2.1 F.toNat (by omega))
  have ek2 : (48 * Z 14 k + F).toNat = 48 * (Z 14 k).toNat + F.toNat := by omega
  rw [← ek2] at kF
  have eW : zcWok Z k r n x = bz (¬ zhlc Z k n r = 0 ∧ Z 20 r = Z 14 k ∧ 0 ≤ x ∧ x ≤ zmost (Z 3 (48 * Z 14 k + F).toNat)) := by
    unfold zcWok; rw [eFi]; rfl
  by_cases ho : Z 20 r = Z 14 k
  · have es : (Z 20 r).toNat = (Z 14 k).toNat := by rw [ho]
    have rv' : 0 ≤ Z 15 k ∧ Z 15 k ≤ Z 1 (Z 20 r).toNat := by rw [es]; exact Gk
    have RWo : RowW h r (Z 14 k).toNat := by rw [← es]; exact RWr
    refine AW.aload_n dX7_write_0 rfl ?_
    refine AW.iload_n dX7_write_1 rfl ?_
    refine AW.callV (as := [vi _]) dX7_write_2 rfl rfl rfl okX7_formAt lkX7_243 W.o rfl rfl rfl rfl rfl rfl rfl (kX7_formN W C (by rw [eC]; exact hg.2) (AW.k1 ?_))
    refine AW.astore dX7_write_5 rfl ?_
    refine AW.aload_n dX7_write_7 rfl ?_
    refine AW.iload_n dX7_write_8 rfl ?_
    refine AW.callV (as := [vi _]) dX7_write_9 rfl rfl rfl okX7_rowAt lkX7_298 W.o rfl rfl rfl rfl rfl rfl rfl (kX7_rowN W C (by rw [eD]; exact hr.2) (AW.k1 ?_))
    refine AW.astore dX7_write_12 rfl ?_
    refine AW.aload dX7_write_14 rfl ?_
    refine AW.iload_n dX7_write_16 rfl ?_
    refine AW.callS (as := [vq _, vi _]) dX7_write_17 rfl rfl rfl okX7_heldField lkX7_289 rfl rfl rfl rfl rfl rfl (kX7_heldFieldE FW W5 B5 eF ⟨by omega, by omega⟩ hb (AW.k1 ?_))
    refine AW.istore dX7_write_20 rfl ?_
    refine AW.aload dX7_write_22 rfl ?_
    refine AW.getRE (j := 0) RWo.o dX7_write_24 lkX7_302 rfl rfl inC4 rfl RWo.r0 ?_
    refine AW.aload dX7_write_27 rfl ?_
    refine AW.getRE (j := 0) FW.o dX7_write_29 lkX7_247 rfl rfl inC1 rfl FW.r0 ?_
    refine AW.acmp_ne (tgt := 53) dX7_write_32 rfl (fun c_32 => ?_) (fun c_32 => ?_)
    · exact absurd rfl c_32
    · refine AW.aload dX7_write_35 rfl ?_
      refine AW.getRE (j := 0) FW.o dX7_write_37 lkX7_247 rfl rfl inC1 rfl FW.r0 ?_
      refine AW.iload dX7_write_40 rfl ?_
      refine AW.callV (as := [vi _]) dX7_write_42 rfl rfl rfl okX4_kindOf lkX7_120 W5.o rfl rfl rfl rfl rfl rfl rfl (kX4_kindOf W5 B5 (AW.k1 ?_))
      refine AW.top (y := Z 3 (48 * Z 14 k + F).toNat) ekd ?_
      refine AW.iload dX7_write_45 rfl ?_
      refine AW.callS (as := [vi _, vi _]) dX7_write_47 rfl rfl rfl okX7_isValue lkX7_66 rfl rfl rfl rfl rfl rfl (kX7_isValue  (AW.k1 ?_))
      refine AW.if_ne (tgt := 64) dX7_write_50 rfl (fun c_50 => ?_) (fun c_50 => ?_)
      · have wok : ¬ zcWok Z k r n x = 0 := by (rw [eW]; exact bz_n0.mpr ⟨e0, ho, (bz_n0.mp c_50).2⟩)
        refine AW.aload dX7_write_64 rfl ?_
        refine AW.getLE (j := 4) FW.o dX7_write_66 lkX7_278 rfl rfl inC1 rfl (by (repeat first | apply hI_n1 rfl | apply hI_n3 rfl | apply hI_e (by omega) | apply hI_m (by omega)); exact rfl) ?_
        refine AW.iload dX7_write_69 rfl ?_
        refine AW.callS (as := [vl _, vi _]) dX7_write_71 rfl rfl rfl okX7_contains lkX7_169 rfl rfl rfl rfl rfl rfl (kX7_contains (by omega) (AW.k1 ?_))
        refine AW.if_ne (tgt := 88) dX7_write_74 rfl (fun c_74 => ?_) (fun c_74 => ?_)
        · have ok : zcWri Z k r n x = 0 := cd3_z e0 wok (by rw [eFi]; exact fw.mp (bz_n0.mp c_74))
          refine AW.aload_n dX7_write_88 rfl ?_
          refine AW.aload dX7_write_89 rfl ?_
          refine AW.aload dX7_write_91 rfl ?_
          refine AW.getIE (j := 1) FW.o dX7_write_93 lkX7_251 rfl rfl inC1 rfl (by exact F3) ?_
          refine AW.callV (as := [vq _, vi _]) dX7_write_96 rfl rfl rfl okX7_see lkX7_305 W.o rfl rfl rfl rfl rfl rfl rfl (sX7_see (v := Z 15 k) S0 hr.2 rv' (fun g' F1 V1 B1 R1 => (AW.k0 ?_)))
          have V12 := R1.2.1
          have Wg : FmW g' := W.f F1 (fun j => ⟨fun w => absurd w.1 (by simp), fun w => absurd w.1 (by simp)⟩)
          have R1b := R1.set (F := F) (x := x) ⟨rF0, by omega⟩
          have V12b := R1b.2.1
          have Fc : Fr (nOf (Z 20 r).toNat 12 0) g' (cpt g' 12 0 F x) := Fr.rf.kpt (fun j z => z.1 ⟨rfl, rfl⟩)
          have F1c := F1.tr Fc
          have Wgc : FmW (cpt g' 12 0 F x) := W.f F1c (fun j => ⟨fun w => absurd w.1 (by simp), fun w => absurd w.1 (by simp)⟩)
          have RWc : RowW (cpt g' 12 0 F x) r (Z 20 r).toNat := RWr.f F1c ⟨fun w => absurd w.1 (by simp), fun w => absurd w.1 (by simp)⟩
          have V13c : StaW (cpt g' 12 0 F x) 13 r := V13.f F1c (fun j => ⟨fun w => absurd w.1 (by simp), fun w => absurd w.1 (by simp)⟩)
          have V1c : SV (cpt g' 12 0 F x) Z (Z 20 r).toNat := V1.kpt (by decide)
          have vc : hI (cpt g' 12 0 F x) (13, r, 0) 0 = Z 21 r := (F1c.I (n := (13, r, 0)) ⟨fun w => absurd w.1 (by simp), fun w => absurd w.1 (by simp)⟩ 0).trans r3.1
          have B1c : SB (cpt g' 12 0 F x) (Z 20 r).toNat := by (have e : ∀ i, hI (cpt g' 12 0 F x) (4, (Z 20 r).toNat, 0) i = hI g' (4, (Z 20 r).toNat, 0) i := Fc.I (nSv_nOf (by decide) _ (Or.inl ⟨rfl, rfl, Or.inl (Nat.zero_le _)⟩)); unfold SB; rw [e, e, e]; exact B1)
          refine AW.aload_n dX7_write_99 rfl ?_
          refine AW.getRE (j := 5) Wg.o dX7_write_100 lkX7_42 rfl rfl inC8 rfl Wg.r5 ?_
          refine AW.iload dX7_write_103 rfl ?_
          refine AW.callV (as := [vi _]) dX7_write_105 rfl rfl rfl okX5_valueOf lkX7_309 V12.o rfl rfl rfl rfl rfl rfl rfl (kX5_valueOf V12 (AW.k1 ?_))
          refine AW.istore dX7_write_108 rfl ?_
          refine AW.aload_n dX7_write_110 rfl ?_
          refine AW.getRE (j := 5) Wg.o dX7_write_111 lkX7_42 rfl rfl inC8 rfl Wg.r5 ?_
          refine AW.iload dX7_write_114 rfl ?_
          refine AW.iload dX7_write_116 rfl ?_
          refine AW.callV (as := [vi _, vi _]) dX7_write_118 rfl rfl rfl okX5_put lkX7_316 V12.o rfl rfl rfl rfl rfl rfl rfl (kX5_put V12 (AW.k0 ?_))
          refine AW.aload dX7_write_121 rfl ?_
          refine AW.getRE (j := 0) RWc.o dX7_write_123 lkX7_302 rfl rfl inC4 rfl RWc.r0 ?_
          refine AW.aload_n dX7_write_126 rfl ?_
          refine AW.getRE (j := 5) Wgc.o dX7_write_127 lkX7_42 rfl rfl inC8 rfl Wgc.r5 ?_
          refine AW.aload dX7_write_130 rfl ?_
          refine AW.getRE (j := 1) RWc.o dX7_write_132 lkX7_320 rfl rfl inC4 rfl RWc.r1 ?_
          refine AW.getIE (j := 0) V13c.o dX7_write_135 lkX7_323 rfl rfl inC6 rfl (by exact vc) ?_
          refine AW.callV (as := [vq _, vi _]) dX7_write_138 rfl rfl rfl okX4_bring lkX7_324 V1c.1.o rfl rfl rfl rfl rfl rfl rfl (sX4_bring (q := 20) (v := Z 21 r) (V1c.z (fun j hj => (zs_oj (beq_ne (fun e => by subst e; exact absurd hj (by decide)))).trans ((zsee_sv j hj)))) ((K2 S hr.2).c (fun j hj => (zs_oj (beq_ne (fun e => by subst e; exact absurd hj (by decide)))).trans ((zsee_sv j hj)))) B1c R1b (by decide) (by have y1 : zs (zsee (zs Z 48 0 0) r (Z 15 k)) 22 (48 * 20 + F.toNat) x 1 = Z 1 := (zsee_o (Z := zs Z 48 0 0) rfl); rw [y1]; exact r3.2) (fun g2 F2' V2 B2 R2 => (AW.k0 ?_)))
          have F3c := F1c.tr F2'
          have Wg2 : FmW g2 := W.f F3c (fun j => ⟨fun w => absurd w.1 (by simp), fun w => absurd w.1 (by simp)⟩)
          have RW2 : RowW g2 r (Z 20 r).toNat := RWr.f F3c ⟨fun w => absurd w.1 (by simp), fun w => absurd w.1 (by simp)⟩
          have V132 : StaW g2 13 r := V13.f F3c (fun j => ⟨fun w => absurd w.1 (by simp), fun w => absurd w.1 (by simp)⟩)
          have P := X_wri (v := Z 15 k) (x := x) (F := F) S B.1.2.2.1 hc hr.2 rfl rfl F1 R1 ⟨rF0, by omega⟩ ⟨rv'.1, by omega⟩ F2' (V2.z (fun j hj => ((zs_oj (beq_ne (fun e => by subst e; exact absurd hj (by decide)))).trans ((zsee_sv j hj))).symm)) R2
          refine AW.pcs (pc2 := 141) rfl ?_
          refine AW.aload dX7_write_141 rfl ?_
          refine AW.getRE (j := 1) RW2.o dX7_write_143 lkX7_320 rfl rfl inC4 rfl RW2.r1 ?_
          refine AW.aload_n dX7_write_146 rfl ?_
          refine AW.getRE (j := 5) Wg2.o dX7_write_147 lkX7_42 rfl rfl inC8 rfl Wg2.r5 ?_
          refine AW.callV (as := [vq _]) dX7_write_150 rfl rfl rfl okX5_copyFrom lkX7_328 V132.o rfl rfl rfl rfl rfl rfl rfl (kX5_copyFrom V132 R2.2.1 rfl R2.isB (AW.k0 ?_))
          refine AW.aload dX7_write_153 rfl ?_
          refine AW.iconst dX7_write_155 (by decide) ?_
          refine AW.putI (j := 2) dX7_write_156 (show RowW (ccp g2 13 r 12 0) r (Z 20 r).toNat from RW2).o rfl rfl inC4 lkX7_332 rfl (Or.inl rfl) (Or.inl rfl) ?_
          refine AW.iload dX7_write_159 rfl ?_
          refine AW.iret dX7_write_161 rfl ?_
          have eWri : zWri (zs Z 48 0 0) k r n x = zcnt (zcpy (zmt (zs (zsee (zs Z 48 0 0) r (Z 15 k)) 22 (48 * 20 + F.toNat) x) ((20 : Nat) : Int) ((Z 20 r).toNat : Nat) (Z 21 r)) 20 r) r := by (unfold zWri zWri2 zWri1; have q1 : zinF (zs Z 48 0 0) k n = F := (zinF_c (Z := Z) (Z' := zs Z 48 0 0) rfl rfl rfl rfl rfl).trans eFi; rw [q1, show (960 + F).toNat = 48 * 20 + F.toNat by omega, show zs Z 48 0 0 20 (r : Int).toNat = Z 20 r from rfl, show zs Z 48 0 0 21 (r : Int).toNat = Z 21 r from rfl, show zs Z 48 0 0 15 (k : Int).toNat = Z 15 k from rfl, show (((Z 20 r).toNat : Nat) : Int) = Z 20 r by omega]; rfl)
          rw [eWri] at k0
          refine fin1 (k0 ok _ ⟨A, P.1⟩ P.2) rfl ?_
          rw [if_pos (by omega), eFi]
          have y := R1.2.2.2.1 F.toNat (by omega) (by rw [show zsee (zs Z 48 0 0) r (Z 15 k) 21 20 = Z 15 k from zsee_21, show zsee (zs Z 48 0 0) r (Z 15 k) 5 = Z 5 from zsee_o rfl]; show ¬ Z 5 (48 * (24 * (Z 20 r).toNat + (Z 15 k).toNat) + F.toNat) = -1; rw [es]; rw [F3] at rF5; omega)
          rw [y]
          congr 1
          omega
        · refine AW.throwW dX7_write_77 dX7_write_80 dX7_write_81 dX7_write_84 dX7_write_87 rfl okTX7_50 strX7_314 rfl rfl rfl rfl rfl ?_
          exact k3 (cd3_3 e0 wok (by rw [eFi]; exact Classical.byContradiction (fun z => bz_0.mp c_74 (fw.mpr z))))
      · refine AW.throwW dX7_write_53 dX7_write_56 dX7_write_57 dX7_write_60 dX7_write_63 rfl okTX7_70 strX7_312 rfl rfl rfl rfl rfl ?_
        exact k2 (cd3_2 e0 (by rw [eW]; exact bz_0.mpr (fun z => bz_0.mp c_50 ⟨kF.2, z.2.2⟩)))
  · have bad : zcWri Z k r n x = 2 := cd3_2 e0 (by rw [eW]; exact bz_0.mpr (fun z => ho z.2.1))
    refine AW.aload_n dX7_write_0 rfl ?_
    refine AW.iload_n dX7_write_1 rfl ?_
    refine AW.callV (as := [vi _]) dX7_write_2 rfl rfl rfl okX7_formAt lkX7_243 W.o rfl rfl rfl rfl rfl rfl rfl (kX7_formN W C (by rw [eC]; exact hg.2) (AW.k1 ?_))
    refine AW.astore dX7_write_5 rfl ?_
    refine AW.aload_n dX7_write_7 rfl ?_
    refine AW.iload_n dX7_write_8 rfl ?_
    refine AW.callV (as := [vi _]) dX7_write_9 rfl rfl rfl okX7_rowAt lkX7_298 W.o rfl rfl rfl rfl rfl rfl rfl (kX7_rowN W C (by rw [eD]; exact hr.2) (AW.k1 ?_))
    refine AW.astore dX7_write_12 rfl ?_
    refine AW.aload dX7_write_14 rfl ?_
    refine AW.iload_n dX7_write_16 rfl ?_
    refine AW.callS (as := [vq _, vi _]) dX7_write_17 rfl rfl rfl okX7_heldField lkX7_289 rfl rfl rfl rfl rfl rfl (kX7_heldFieldE FW W5 B5 eF ⟨by omega, by omega⟩ hb (AW.k1 ?_))
    refine AW.istore dX7_write_20 rfl ?_
    refine AW.aload dX7_write_22 rfl ?_
    refine AW.getRE (j := 0) RWr.o dX7_write_24 lkX7_302 rfl rfl inC4 rfl RWr.r0 ?_
    refine AW.aload dX7_write_27 rfl ?_
    refine AW.getRE (j := 0) FW.o dX7_write_29 lkX7_247 rfl rfl inC1 rfl FW.r0 ?_
    refine AW.acmp_ne (tgt := 53) dX7_write_32 rfl (fun c_32 => ?_) (fun c_32 => ?_)
    · refine AW.throwW dX7_write_53 dX7_write_56 dX7_write_57 dX7_write_60 dX7_write_63 rfl okTX7_70 strX7_312 rfl rfl rfl rfl rfl ?_
      exact k2 bad
    · exact absurd (by have z := c_32; simp at z; omega) ho
end I3

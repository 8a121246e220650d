/-! ===== the relation: the face: renew ===== -/
section N1
variable {Q : AH → AO → Prop} {h g G : AH} {Z Y X : ZT} {c q s k : Nat} {A : Nat → Nat}
theorem zbeg_o2 {s a f w : Int} {j : Nat} (hj : (j != 1 && j != 5 && j != 6 && j != 7 && j != 8 && j != 9) = true) : zbeg Z s a f w j = Z j := by
  simp only [Bool.and_eq_true, bne_iff_ne, ne_eq] at hj
  obtain ⟨⟨⟨⟨⟨a1, a5⟩, a6⟩, a7⟩, a8⟩, a9⟩ := hj
  unfold zbeg
  rw [zs_oj (beq_ne a9), zs_oj (beq_ne a9), zs_oj (beq_ne a8), zs_oj (beq_ne a8), zs_oj (beq_ne a7), zs_oj (beq_ne a1)]
  funext i
  unfold zcp
  rw [if_neg (by omega)]
theorem zdo_o2 {s f : Int} {j : Nat} (hj : (j != 1 && j != 5 && j != 6 && j != 7 && j != 8 && j != 9) = true) : zdo Z s f j = Z j := by
  have hj2 := hj
  simp only [Bool.and_eq_true, bne_iff_ne, ne_eq] at hj2
  unfold zdo
  rw [zs_oj (beq_ne hj2.1.2), zs_oj (beq_ne hj2.1.1.1.1.2), zbeg_o2 hj]
theorem zlaS_o {s : Int} {j : Nat} (hj : (j != 1 && j != 5 && j != 6 && j != 7 && j != 8 && j != 9) = true) (h12 : ¬ j = 12) : ∀ i : Nat, (zlaS Z s i).1 j = Z j
  | 0 => rfl
  | i + 1 => by
    unfold zlaS
    split
    · show zdo _ _ _ j = _; rw [zdo_o2 hj]; exact zlaS_o hj h12 i
    · show zs _ _ _ _ j = _; rw [zs_oj (beq_ne h12)]; exact zlaS_o hj h12 i
theorem zla_o {s : Int} {j : Nat} (hj : (j != 1 && j != 5 && j != 6 && j != 7 && j != 8 && j != 9) = true) (h12 : ¬ j = 12) (h11 : ¬ j = 11) : zla Z s j = Z j := by
  unfold zla
  rw [zs_oj (beq_ne h11)]; exact zlaS_o hj h12 _
set_option maxHeartbeats 1000000 in
theorem X_rnw {L3 L4 : Int64} (S : SIMq A 9 h Z c) (hk : (k : Int) < Z 13 0) (G : 0 ≤ Z 15 k ∧ Z 15 k ≤ Z 1 (Z 14 k).toNat) (ha : Z 16 k = 0) (q3 : BQ L3 (zTo Z k 0)) (q4 : BQ L4 (zTo Z k 1)) :
    SIMq A 9 (sI (sL (sL h (8, k, 0) 3 L3) (8, k, 0) 4 L4) (8, k, 0) 1 (hI h (4, (Z 14 k).toNat, 0) 0)) (zRnw0 Z k) c := by
  have z13 := S.c13
  obtain ⟨FW, F2, ⟨F3, F4⟩, F5, F6, F7⟩ := S.2.2.2.1 k hk
  obtain ⟨S1, K, SQ1⟩ := S.sc (s := (Z 14 k).toNat) (by omega)
  have b2 := K.b2
  have e14 : (((Z 14 k).toNat : Nat) : Int) = Z 14 k := by omega
  have e15 : (((Z 15 k).toNat : Nat) : Int) = Z 15 k := by omega
  have Yo : ∀ j, ¬ j = 15 → ¬ j = 17 → ¬ j = 18 → ¬ j = 48 → zRnw0 Z k j = Z j := fun j h15 h17 h18 h48 => by
    unfold zRnw0
    rw [zs_oj (beq_ne h15)]
    funext i
    unfold zrnF
    rw [if_neg (by omega)]
    exact congrFun (zs_oj (beq_ne h48)) i
  have Y15 : ∀ k' : Nat, zRnw0 Z k 15 k' = if k' = k then Z 1 (Z 14 k).toNat else Z 15 k' := fun k' => by
    unfold zRnw0
    rw [zs_if, Int.toNat_natCast]
    congr 1
  have Y17 : ∀ k' f : Nat, f < 48 → zRnw0 Z k 17 (48 * k' + f) = if k' = k then zTo Z k 0 f else Z 17 (48 * k' + f) := fun k' f hf => by
    unfold zRnw0
    refine zs_ne rfl ?_
    unfold zrnF
    by_cases z : k' = k
    · rw [if_pos z, if_pos ⟨Or.inl rfl, by omega, by omega⟩, if_pos rfl]; congr 1; omega
    · rw [if_neg z, if_neg (by omega)]; exact zs_ne rfl rfl
  have Y18 : ∀ k' f : Nat, f < 48 → zRnw0 Z k 18 (48 * k' + f) = if k' = k then zTo Z k 1 f else Z 18 (48 * k' + f) := fun k' f hf => by
    unfold zRnw0
    refine zs_ne rfl ?_
    unfold zrnF
    by_cases z : k' = k
    · rw [if_pos z, if_pos ⟨Or.inr rfl, by omega, by omega⟩, if_neg (by decide)]; congr 1; omega
    · rw [if_neg z, if_neg (by omega)]; exact zs_ne rfl rfl
  have c3 : hL (sI (sL (sL h (8, k, 0) 3 L3) (8, k, 0) 4 L4) (8, k, 0) 1 (hI h (4, (Z 14 k).toNat, 0) 0)) (8, k, 0) 3 = L3 := by rw [hL_sI, hL_m (by decide) (hL_e rfl rfl)]
  have c4 : hL (sI (sL (sL h (8, k, 0) 3 L3) (8, k, 0) 4 L4) (8, k, 0) 1 (hI h (4, (Z 14 k).toNat, 0) 0)) (8, k, 0) 4 = L4 := by rw [hL_sI, hL_e rfl rfl]
  have eZ : ∀ w : Int, zTo Z k w = zfo Z ((Z 14 k).toNat : Nat) ((Z 15 k).toNat : Nat) (zTo0 Z k w) (Z 1 (Z 14 k).toNat - Z 15 k).toNat := fun w => by
    unfold zTo; rw [Int.toNat_natCast, e14, e15]
  have mo : ∀ f : Nat, f < 48 → ¬ zTo Z k 1 f = 0 → ¬ zTo Z k 0 f = 0 := fun f hf => by
    rw [eZ, eZ]
    exact zfo_mo (v := (Z 15 k).toNat) K (fun f hf z => bz_n0.mpr ⟨(bz_n0.mp z).1, Or.inl rfl⟩) _ (by omega) f hf
  have sup : ∀ f : Nat, f < 48 → ¬ zTo Z k 0 f = 0 → (f : Int) < Z 2 (Z 14 k).toNat := fun f hf => by
    rw [eZ]
    refine zfo_sup (v := (Z 15 k).toNat) K (fun f hf z => ?_) _ (by omega) f hf
    have := (bz_n0.mp z).1
    rw [show (48 * (k : Int) + (f : Int)).toNat = 48 * k + f by omega] at this
    exact F6 f hf this
  refine S.fo hk (((Fr.rf.wL (fun z => z rfl)).wL (fun z => z rfl)).wI (fun z => z rfl)) rfl (foO (j := 0) (fun j h14 h15 h16 h17 h18 h48 => Yo j h15 h17 h18 h48)) (fun k' h8 hne => ⟨by rw [Yo 14 (by decide) (by decide) (by decide) (by decide)], by rw [Y15, if_neg hne], by rw [Yo 16 (by decide) (by decide) (by decide) (by decide)], fun f hf => ⟨by rw [Y17 k' f hf, if_neg hne], by rw [Y18 k' f hf, if_neg hne]⟩⟩) ?_
  unfold FF
  rw [Yo 14 (by decide) (by decide) (by decide) (by decide), Y15, if_pos rfl, Yo 16 (by decide) (by decide) (by decide) (by decide), Yo 0 (by decide) (by decide) (by decide) (by decide), Yo 2 (by decide) (by decide) (by decide) (by decide), c3, c4]
  refine ⟨FW, F2, ⟨?_, ?_⟩, fun f hf => ⟨?_, ?_⟩, fun f hf => ?_, fun z => absurd ha z⟩
  · rw [hI_e rfl rfl]; exact S1.hd
  · exact (hI_m (by decide) rfl).trans F4
  · rw [q3 f hf]
    by_cases y : f < 48
    · rw [Y17 k f y, if_pos rfl]
    · exact ⟨fun t => absurd t.1 y, fun t => absurd t.1 y⟩
  · rw [q4 f hf]
    by_cases y : f < 48
    · rw [Y17 k f y, Y18 k f y, if_pos rfl, if_pos rfl]
      exact ⟨fun t => ⟨t.1, mo f y t.2, t.2⟩, fun t => ⟨t.1, t.2.2⟩⟩
    · exact ⟨fun t => absurd t.1 y, fun t => absurd t.1 y⟩
  · rw [Y17 k f hf, if_pos rfl]; exact sup f hf
set_option maxHeartbeats 1000000 in
theorem sX7_renew {g : Int} (S : SIM h Z c) (B : ZB Z) (k1 : zcRet Z g = 1 → Q h (.inr eIx)) (k2 : zcRet Z g = 2 → Q h (.inr eIs))
    (k0 : zcRet Z g = 0 → ∀ g', SIM g' (zla (zRnw0 Z g) (Z 14 g.toNat)) c → Fr nMo h g' → Q g' (.inl (some (vi (zheA (zla (zRnw0 Z g) (Z 14 g.toNat)) g 48))))) : AC mX7_renew fX7_renew loX7_renew 140 380 h [vr mF, vi g] Q := by
  obtain ⟨A, S⟩ := S
  have W := S.1.1
  have C := S.1.2.1
  have eC := S.1.2.2.1.2.1
  have zz := S.zz
  have z13 := S.c13
  refine AC.mk (by decide) (Nat.le_of_ble_eq_true rfl) ?_
  by_cases hg : ¬ (0 ≤ g ∧ g < Z 13 0)
  · have e1 : zcRet Z g = 1 := cd2_1 (fun z => hg ⟨by omega, by omega⟩)
    refine AW.aload_n dX7_renew_0 rfl ?_
    refine AW.iload_n dX7_renew_1 rfl ?_
    refine AW.callV (as := [vi _]) dX7_renew_2 rfl rfl rfl okX7_formAt lkX7_243 W.o rfl rfl rfl rfl rfl rfl rfl (kX7_formAt W C (fun _ => k1 e1) (fun z => absurd (eC ▸ z) hg))
    skip
  have hg := Classical.not_not.mp hg
  obtain ⟨k, rfl⟩ := Int.eq_ofNat_of_zero_le hg.1
  have FFk := S.2.2.2.1 k hg.2
  have Gk := (B.1.2.2.2.1.2 k (by omega)).2.2
  have BY : BI (zRnw0 Z k) := BI_z15 (by show 0 ≤ Z 1 _ ∧ _ ≤ Z 1 (Z 14 (k : Int).toNat).toNat; rw [Int.toNat_natCast]; omega) (BI_zrnF (BI_zs rfl B.1) zTo_flg zTo_flg)
  have tr3 := fun x (w : Int) q0 => FF.tr (x := x) (w := w) S FFk Gk q0
  have xr := fun L3 L4 ha q3 q4 => X_rnw (L3 := L3) (L4 := L4) S hg.2 Gk ha q3 q4
  obtain ⟨FW, F2, ⟨F3, F4⟩, F5, F6, F7⟩ := FFk
  have e14 : (((Z 14 k).toNat : Nat) : Int) = Z 14 k := by omega
  rw [Int.toNat_natCast] at k0
  have g1 : ¬ ¬ (0 ≤ (k : Int) ∧ (k : Int) ≤ Z 13 0 - 1) := fun z => z ⟨by omega, by omega⟩
  obtain ⟨S1, K, SQ1⟩ := S.sc (s := (Z 14 k).toNat) (by omega)
  have SQ1 := SQ1 (by omega)
  have b1 := K.b1
  have W5 := S1.1
  have B5 := S1.sb K (by rw [SQ1.1]; exact SQ1.2.1)
  have St := S1.sts K
  have ev : Z 15 k = (((Z 15 k).toNat : Nat) : Int) := by omega
  have hv : (((Z 15 k).toNat : Nat) : Int) ≤ hI h (4, (Z 14 k).toNat, 0) 0 := by rw [S1.hd]; omega
  have q3 : BQ (ctr h (Z 14 k).toNat (Z 15 k).toNat (hL h (8, k, 0) 3)) (zTo Z k 0) := tr3 _ 0 (fun f hf => by
    rw [(F5 f hf).1]
    unfold zTo0
    rw [bz_n0, show (48 * (k : Int) + (f : Int)).toNat = 48 * k + f by omega]
    exact ⟨fun t => ⟨t.1, t.2, Or.inl rfl⟩, fun t => ⟨t.1, t.2.1⟩⟩)
  have S1' : SV (sL h (8, k, 0) 3 (ctr h (Z 14 k).toNat (Z 15 k).toNat (hL h (8, k, 0) 3))) Z (Z 14 k).toNat := S1.fr3 b1.2 (P := fun n => ¬ n.1 = 8) (Fr.rf.wL (fun z => z rfl)) (fun x _ => by simp) (fun v _ => ⟨by simp, by simp, by simp⟩)
  have q4 : BQ (ctr (sL h (8, k, 0) 3 (ctr h (Z 14 k).toNat (Z 15 k).toNat (hL h (8, k, 0) 3))) (Z 14 k).toNat (Z 15 k).toNat (hL h (8, k, 0) 4)) (zTo Z k 1) := by
    have q0 : BQ (hL h (8, k, 0) 4) (zTo0 Z k 1) := fun f hf => by
      rw [(F5 f hf).2]
      unfold zTo0
      rw [bz_n0, show (48 * (k : Int) + (f : Int)).toNat = 48 * k + f by omega]
      exact ⟨fun t => ⟨t.1, t.2.1, Or.inr t.2.2⟩, fun t => ⟨t.1, t.2.1, t.2.2.resolve_left (by decide)⟩⟩
    have := q0.tr S1' K (v := (Z 15 k).toNat) (by omega)
    unfold zTo
    rw [Int.toNat_natCast]
    rw [e14, ← ev] at this
    exact this
  have xr := fun ha => xr _ _ ha q3 q4
  refine AW.aload_n dX7_renew_0 rfl ?_
  refine AW.iload_n dX7_renew_1 rfl ?_
  refine AW.callV (as := [vi _]) dX7_renew_2 rfl rfl rfl okX7_formAt lkX7_243 W.o rfl rfl rfl rfl rfl rfl rfl (kX7_formN W C (by rw [eC]; exact hg.2) (AW.k1 ?_))
  refine AW.astore_n dX7_renew_5 rfl ?_
  refine AW.aload_n dX7_renew_6 rfl ?_
  refine AW.getIE (j := 2) FW.o dX7_renew_7 lkX7_264 rfl rfl inC1 rfl (by exact F4) ?_
  refine AW.if_ne (tgt := 24) dX7_renew_10 rfl (fun c_10 => ?_) (fun c_10 => ?_)
  · have ha := Classical.not_not.mp (fun z => bz_n0.mp c_10 |> z)
    have e0 : zcRet Z k = 0 := cd2_z g1 (by rw [Int.toNat_natCast]; exact fun z => z ha)
    have hS1 := xr ha
    refine AW.aload_n dX7_renew_24 rfl ?_
    refine AW.aload_n dX7_renew_25 rfl ?_
    refine AW.getRE (j := 0) FW.o dX7_renew_26 lkX7_247 rfl rfl inC1 rfl FW.r0 ?_
    refine AW.aload_n dX7_renew_29 rfl ?_
    refine AW.getLE (j := 3) FW.o dX7_renew_30 lkX7_274 rfl rfl inC1 rfl (by (repeat first | apply hI_n1 rfl | apply hI_n3 rfl | apply hI_e (by omega) | apply hI_m (by omega)); exact rfl) ?_
    refine AW.aload_n dX7_renew_33 rfl ?_
    refine AW.getIE (j := 1) FW.o dX7_renew_34 lkX7_251 rfl rfl inC1 rfl (by exact F3.trans ev) ?_
    refine AW.callV (as := [vl _, vi _]) dX7_renew_37 rfl rfl rfl okX4_tracesOf lkX7_260 W5.o rfl rfl rfl rfl rfl rfl rfl (kX4_tracesOf W5 B5 St hv (AW.k1 ?_))
    refine AW.putL (j := 3) dX7_renew_40 FW.o rfl rfl inC1 lkX7_274 rfl (Or.inl rfl) ?_
    refine AW.aload_n dX7_renew_43 rfl ?_
    refine AW.aload_n dX7_renew_44 rfl ?_
    refine AW.getRE (j := 0) FW.o dX7_renew_45 lkX7_247 rfl rfl inC1 rfl FW.r0 ?_
    refine AW.aload_n dX7_renew_48 rfl ?_
    refine AW.getLE (j := 4) FW.o dX7_renew_49 lkX7_278 rfl rfl inC1 rfl (by exact hL_m (by decide) rfl) ?_
    refine AW.aload_n dX7_renew_52 rfl ?_
    refine AW.getIE (j := 1) FW.o dX7_renew_53 lkX7_251 rfl rfl inC1 rfl (by exact F3.trans ev) ?_
    refine AW.callV (as := [vl _, vi _]) dX7_renew_56 rfl rfl rfl okX4_tracesOf lkX7_260 W5.o rfl rfl rfl rfl rfl rfl rfl (kX4_tracesOf W5 B5 St hv (AW.k1 ?_))
    refine AW.putL (j := 4) dX7_renew_59 FW.o rfl rfl inC1 lkX7_278 rfl (Or.inl rfl) ?_
    refine AW.aload_n dX7_renew_62 rfl ?_
    refine AW.aload_n dX7_renew_63 rfl ?_
    refine AW.getRE (j := 0) FW.o dX7_renew_64 lkX7_247 rfl rfl inC1 rfl FW.r0 ?_
    refine AW.getIE (j := 0) W5.o dX7_renew_67 lkX7_75 rfl rfl inC5 rfl (by (repeat first | apply hI_n1 rfl | apply hI_n3 rfl | apply hI_e (by omega) | apply hI_m (by omega)); exact rfl) ?_
    refine AW.putI (j := 1) dX7_renew_70 FW.o rfl rfl inC1 lkX7_251 rfl (Or.inl rfl) (Or.inl rfl) ?_
    obtain ⟨S9, K9, SQ9⟩ := hS1.sc (s := (Z 14 k).toNat) (by have : zRnw0 Z k 0 = Z 0 := rfl; rw [this]; omega)
    refine AW.pcs (pc2 := 73) rfl ?_
    refine AW.aload_n dX7_renew_73 rfl ?_
    refine AW.getRE (j := 0) FW.o dX7_renew_74 lkX7_247 rfl rfl inC1 rfl FW.r0 ?_
    refine AW.aload_n dX7_renew_77 rfl ?_
    refine AW.aload_n dX7_renew_78 rfl ?_
    refine AW.getRE (j := 0) FW.o dX7_renew_79 lkX7_247 rfl rfl inC1 rfl FW.r0 ?_
    refine AW.callV (as := [vq _]) dX7_renew_82 rfl rfl rfl okX7_heldUpOf lkX7_165 W.o rfl rfl rfl rfl rfl rfl rfl (sX7_heldUpOf (s := (Z 14 k).toNat) hS1 BY.2.2.2.1 (by have : zRnw0 Z k 0 = Z 0 := rfl; rw [this]; omega) (fun x hx => (AW.k1 ?_)))
    refine AW.callV (as := [vl _]) dX7_renew_85 rfl rfl rfl okX4_takeOffWaiting lkX7_293 W5.o rfl rfl rfl rfl rfl rfl rfl (sX4_takeOffWaiting (s := (Z 14 k).toNat) hS1 BY (by have : zRnw0 Z k 0 = Z 0 := rfl; rw [this]; omega) hx (fun g' S' F' => (AW.k1 ?_)))
    have kk : (k : Int) < zla (zRnw0 Z k) ((Z 14 k).toNat : Nat) 13 0 := (by rw [zla_o rfl (by decide) (by decide)]; exact hg.2)
    obtain ⟨GW, -, -, G5, -, -⟩ := S'.2.2.2.1 k kk
    refine AW.pop dX7_renew_88 rfl ?_
    refine AW.aload_n dX7_renew_89 rfl ?_
    refine AW.getLE (j := 3) GW.o dX7_renew_90 lkX7_274 rfl rfl inC1 rfl (by (repeat first | apply hI_n1 rfl | apply hI_n3 rfl | apply hI_e (by omega) | apply hI_m (by omega)); exact rfl) ?_
    refine AW.callSF (as := [vl _]) dX7_renew_93 rfl rfl rfl okJ13_bitCount lkX7_283 rfl rfl rfl rfl rfl (kJ13_bitCount (AW.k1 ?_))
    refine AW.iret dX7_renew_96 rfl ?_
    have V := cb_heA (fun f hf => (G5 f hf).1)
    rw [e14] at S' V
    refine fin1 (k0 e0 g' ⟨A, S'⟩ ((((Fr.rf.wL (fun z => by rcases z with z | z <;> simp at z)).wL (fun z => by rcases z with z | z <;> simp at z)).wI (fun z => by rcases z with z | z <;> simp at z)).tr F')) rfl ?_
    exact V
  · refine AW.throwW dX7_renew_13 dX7_renew_16 dX7_renew_17 dX7_renew_20 dX7_renew_23 rfl okTX7_50 strX7_296 rfl rfl rfl rfl rfl ?_
    exact k2 (cd2_2 g1 (by rw [Int.toNat_natCast]; exact bz_0.mp c_10))
end N1

/-! ===== the face: letGo, retire ===== -/
section H1
variable {Q : AH → AO → Prop} {h g G : AH} {Z Y : ZT} {c q : Nat} {A : Nat → Nat}
theorem foO {j : Nat} {Y Z : ZT} (k : ∀ j, ¬ j = 14 → ¬ j = 15 → ¬ j = 16 → ¬ j = 17 → ¬ j = 18 → ¬ j = 48 → Y j = Z j) : ∀ j, (j == 14 || j == 15 || j == 16 || j == 17 || j == 18 || j == 48) = false → Y j = Z j := fun j hj => by
  simp only [Bool.or_eq_false_iff, beq_eq_false_iff_ne] at hj
  obtain ⟨⟨⟨⟨⟨h1, h2⟩, h3⟩, h4⟩, h5⟩, h6⟩ := hj
  exact k j h1 h2 h3 h4 h5 h6
theorem kX7_heldFieldE {s k : Nat} {n F : Int} (W : ForW h k s) (W5 : SchW h s) (B : SB h s) (e : cfn h s (hI h (8, k, 0) 1) n = F) (hF : 0 ≤ F ∧ F < 64) (hb : bt (hL h (8, k, 0) 3) F) (kk : Q h (.inl (some (vi F)))) : AC mX7_heldField fX7_heldField loX7_heldField 1 6 h [vr (8, k, 0), vi n] Q := by
  subst e
  exact kX7_heldField W W5 B ⟨hF.2, by omega⟩ (fun z => absurd z (fun y => y.elim (fun y => by omega) (fun y => y hb))) (fun _ _ => kk)
/-- what a call on a form k finds -/
theorem FF.fnd {k : Nat} {n : Int} (S : SIMq A 9 h Z c) (hk : (k : Int) < Z 13 0) (G : 0 ≤ Z 15 k ∧ Z 15 k ≤ Z 1 (Z 14 k).toNat) : zinF Z (k : Int) n = cfn h (Z 14 k).toNat (hI h (8, k, 0) 1) n := by
  have F := S.2.2.2.1 k hk
  obtain ⟨F1, F2, ⟨F3, F4⟩, F5⟩ := F
  obtain ⟨S1, K, -⟩ := S.sc (s := (Z 14 k).toNat) (by omega)
  unfold zinF
  rw [if_pos ⟨by omega, by omega⟩, Int.toNat_natCast, F3]
  have := S1.fnd K (v := Z 15 k) (n := n) G
  rw [show (((Z 14 k).toNat : Nat) : Int) = Z 14 k by omega] at this
  exact this
theorem bt_clr {x : Int64} {F : Int} {f : Nat} (hF : 0 ≤ F ∧ F < 64) (hf : f < 64) : bt (x &&& (bitI F ^^^ (-1))) f ↔ bt x f ∧ ¬ (f : Int) = F := by
  rw [bt_and, bt_not (by omega), bit_bt hF (by omega)]
theorem bt_set {x : Int64} {F : Int} {f : Nat} (hF : 0 ≤ F ∧ F < 64) (hf : f < 64) : bt (x ||| bitI F) f ↔ bt x f ∨ (f : Int) = F := by
  rw [bt_or, bit_bt hF (by omega)]
set_option maxHeartbeats 1000000 in
theorem sX7_letGo {g n : Int} (S : SIM h Z c) (B : ZB Z) (k1 : zcLet Z g n = 1 → Q h (.inr eIx))
    (k0 : zcLet Z g n = 0 → ∀ g', SIM g' (zla (zLet0 Z g n) (Z 14 g.toNat)) c → Fr nMo h g' → Q g' (.inl (some (vi (zlaN (zLet0 Z g n) (Z 14 g.toNat)))))) : AC mX7_letGo fX7_letGo loX7_letGo 140 380 h [vr mF, vi g, vi n] Q := by
  obtain ⟨A, S⟩ := S
  have W := S.1.1
  have C := S.1.2.1
  have eC := S.1.2.2.1.2.1
  have zz := S.zz
  have z13 := S.c13
  refine AC.mk (by decide) (Nat.le_of_ble_eq_true rfl) ?_
  by_cases hg : ¬ (0 ≤ g ∧ g < Z 13 0)
  · have e1 : zcLet Z g n = 1 := bz_1.mpr (fun z => z.1 (by unfold zinF; rw [if_neg (by omega)]))
    refine AW.aload_n dX7_letGo_0 rfl ?_
    refine AW.iload_n dX7_letGo_1 rfl ?_
    refine AW.callV (as := [vi _]) dX7_letGo_2 rfl rfl rfl okX7_formAt lkX7_243 W.o rfl rfl rfl rfl rfl rfl rfl (kX7_formAt W C (fun _ => k1 e1) (fun z => absurd (eC ▸ z) hg))
    skip
  have hg := Classical.not_not.mp hg
  obtain ⟨k, rfl⟩ := Int.eq_ofNat_of_zero_le hg.1
  have FFk := S.2.2.2.1 k hg.2
  have Gk := (B.1.2.2.2.1.2 k (by omega)).2.2
  have eFi := FF.fnd (n := n) S hg.2 Gk
  obtain ⟨FW, F2, ⟨F3, F4⟩, F5, F6, F7⟩ := FFk
  obtain ⟨S1, K, SQ1⟩ := S.sc (s := (Z 14 k).toNat) (by omega)
  have SQ1 := SQ1 (by omega)
  have b1 := K.b1
  have b2 := K.b2
  have W5 := S1.1
  have B5 := S1.sb K (by rw [SQ1.1]; exact SQ1.2.1)
  have rF := S1.fr K (v := hI h (8, k, 0) 1) (n := n)
  have e14 : (((Z 14 k).toNat : Nat) : Int) = Z 14 k := by omega
  rw [Int.toNat_natCast] at k0
  generalize eF : cfn h (Z 14 k).toNat (hI h (8, k, 0) 1) n = F at eFi rF
  have fb : ∀ f : Int, 0 ≤ f → f < 46 → (bt (hL h (8, k, 0) 3) f ↔ ¬ Z 17 (48 * (k : Int) + f).toNat = 0) := fun f f0 f1 => by
    have := (F5 f.toNat (by omega)).1
    rw [show ((f.toNat : Nat) : Int) = f by omega, show 48 * k + f.toNat = (48 * (k : Int) + f).toNat by omega] at this
    rw [this]
    exact ⟨fun z => z.2, fun z => ⟨by omega, z⟩⟩
  by_cases hh : F = -1 ∨ ¬ bt (hL h (8, k, 0) 3) F
  · have e1 : zcLet Z k n = 1 := bz_1.mpr (fun z => by
      rw [eFi] at z
      rcases hh with y | y
      · exact z.1 y
      · have := rF.resolve_left z.1
        exact y ((fb F (by omega) (by omega)).mpr z.2))
    refine AW.aload_n dX7_letGo_0 rfl ?_
    refine AW.iload_n dX7_letGo_1 rfl ?_
    refine AW.callV (as := [vi _]) dX7_letGo_2 rfl rfl rfl okX7_formAt lkX7_243 W.o rfl rfl rfl rfl rfl rfl rfl (kX7_formN W C (by rw [eC]; exact hg.2) (AW.k1 ?_))
    refine AW.astore_n dX7_letGo_5 rfl ?_
    refine AW.aload_n dX7_letGo_6 rfl ?_
    refine AW.iload_n dX7_letGo_7 rfl ?_
    refine AW.callS (as := [vq _, vi _]) dX7_letGo_8 rfl rfl rfl okX7_heldField lkX7_289 rfl rfl rfl rfl rfl rfl (kX7_heldField FW W5 B5 (by rw [eF]; omega) (fun _ => k1 e1) (fun z y => absurd hh (by rw [eF] at z y; exact fun w => w.elim z (fun w => w y))))
    skip
  have hF : ¬ F = -1 := fun z => hh (Or.inl z)
  have hb : bt (hL h (8, k, 0) 3) F := Classical.byContradiction (fun z => hh (Or.inr z))
  obtain ⟨rv, rn, rF0, rF1, rF5⟩ := rF.resolve_left hF
  have e0 : zcLet Z k n = 0 := bz_0.mpr (fun z => z ⟨by rw [eFi]; exact hF, by rw [eFi]; exact (fb F rF0 (by omega)).mp hb⟩)
  have Y17 : ∀ k' f : Nat, k' < 8 → f < 48 → zLet0 Z k n 17 (48 * k' + f) = if k' = k ∧ (f : Int) = F then 0 else Z 17 (48 * k' + f) := fun k' f h8 h48 => by
    unfold zLet0
    rw [eFi]
    by_cases z : k' = k ∧ (f : Int) = F
    · rw [if_pos z, zs_eq (by omega) rfl]
    · rw [if_neg z, zs_miss (by omega) (zs_ne rfl rfl)]
  have BY : BI (zLet0 Z k n) := BI_fl rfl (Or.inl rfl) (BI_zs rfl B.1)
  have hS1 : SIMq A 9 (sL (sL h (8, k, 0) 3 (hL h (8, k, 0) 3 &&& (bitI F ^^^ (-1)))) (8, k, 0) 4 (hL h (8, k, 0) 4 &&& (bitI F ^^^ (-1)))) (zLet0 Z k n) c := by
    refine S.fo hg.2 ((Fr.rf.wL (fun z => z rfl)).wL (fun z => z rfl)) rfl (foO (j := 0) (fun j h14 h15 h16 h17 h18 h48 => by unfold zLet0; rw [zs_oj (beq_ne h17), zs_oj (beq_ne h48)])) (fun k' h8 hne => ⟨rfl, rfl, rfl, fun f hf => ⟨by rw [Y17 k' f h8 hf, if_neg (fun z => hne z.1)], rfl⟩⟩) ?_
    have c3 : hL (sL (sL h (8, k, 0) 3 (hL h (8, k, 0) 3 &&& (bitI F ^^^ (-1)))) (8, k, 0) 4 (hL h (8, k, 0) 4 &&& (bitI F ^^^ (-1)))) (8, k, 0) 3 = hL h (8, k, 0) 3 &&& (bitI F ^^^ (-1)) := by rw [hL_m (by decide) (hL_e rfl rfl)]
    have c4 : hL (sL (sL h (8, k, 0) 3 (hL h (8, k, 0) 3 &&& (bitI F ^^^ (-1)))) (8, k, 0) 4 (hL h (8, k, 0) 4 &&& (bitI F ^^^ (-1)))) (8, k, 0) 4 = hL h (8, k, 0) 4 &&& (bitI F ^^^ (-1)) := by rw [hL_e rfl rfl]
    refine ⟨FW, F2, ⟨F3, F4⟩, fun f hf => ?_, fun f hf => ?_, fun z f hf => ?_⟩
    · obtain ⟨x3, x4⟩ := F5 f hf
      rw [c3, c4, bt_clr (by omega) hf, bt_clr (by omega) hf, x3, x4]
      by_cases y : f < 48
      · rw [Y17 k f (by omega) y]
        have y18 : zLet0 Z k n 18 = Z 18 := rfl
        rw [y18]
        by_cases z : (f : Int) = F
        · rw [if_pos ⟨rfl, z⟩]
          exact ⟨⟨fun w => absurd z w.2, fun w => absurd rfl w.2⟩, ⟨fun w => absurd z w.2, fun w => absurd rfl w.2.1⟩⟩
        · rw [if_neg (fun w => z w.2)]
          exact ⟨⟨fun w => w.1, fun w => ⟨w, z⟩⟩, ⟨fun w => w.1, fun w => ⟨w, z⟩⟩⟩
      · exact ⟨⟨fun w => absurd w.1.1 y, fun w => absurd w.1 y⟩, ⟨fun w => absurd w.1.1 y, fun w => absurd w.1 y⟩⟩
    · rw [Y17 k f (by omega) hf]
      split
      · intro z; exact absurd rfl z
      · exact F6 f hf
    · rw [Y17 k f (by omega) hf]
      split
      · rfl
      · exact F7 z f hf
  obtain ⟨S1', K', SQ1'⟩ := hS1.sc (s := (Z 14 k).toNat) (by have : zLet0 Z k n 0 = Z 0 := rfl; rw [this]; omega)
  refine AW.aload_n dX7_letGo_0 rfl ?_
  refine AW.iload_n dX7_letGo_1 rfl ?_
  refine AW.callV (as := [vi _]) dX7_letGo_2 rfl rfl rfl okX7_formAt lkX7_243 W.o rfl rfl rfl rfl rfl rfl rfl (kX7_formN W C (by rw [eC]; exact hg.2) (AW.k1 ?_))
  refine AW.astore_n dX7_letGo_5 rfl ?_
  refine AW.aload_n dX7_letGo_6 rfl ?_
  refine AW.iload_n dX7_letGo_7 rfl ?_
  refine AW.callS (as := [vq _, vi _]) dX7_letGo_8 rfl rfl rfl okX7_heldField lkX7_289 rfl rfl rfl rfl rfl rfl (kX7_heldFieldE FW W5 B5 eF ⟨by omega, by omega⟩ hb (AW.k1 ?_))
  refine AW.istore dX7_letGo_11 rfl ?_
  refine AW.aload_n dX7_letGo_13 rfl ?_
  refine AW.dup dX7_letGo_14 rfl ?_
  refine AW.getLE (j := 3) FW.o dX7_letGo_15 lkX7_274 rfl rfl inC1 rfl (by (repeat first | apply hI_n1 rfl | apply hI_n3 rfl | apply hI_e (by omega) | apply hI_m (by omega)); exact rfl) ?_
  refine AW.iload dX7_letGo_18 rfl ?_
  refine AW.callS (as := [vi _]) dX7_letGo_20 rfl rfl rfl okX7_bit lkX7_256 rfl rfl rfl rfl rfl rfl (kX7_bit (by omega) (AW.k1 ?_))
  refine AW.ldc2 dX7_letGo_23 lkX7_281 ?_
  refine AW.lxor dX7_letGo_26 ?_
  refine AW.land dX7_letGo_27 ?_
  refine AW.putL (j := 3) dX7_letGo_28 FW.o rfl rfl inC1 lkX7_274 rfl (Or.inl rfl) ?_
  refine AW.aload_n dX7_letGo_31 rfl ?_
  refine AW.dup dX7_letGo_32 rfl ?_
  refine AW.getLE (j := 4) FW.o dX7_letGo_33 lkX7_278 rfl rfl inC1 rfl (by exact hL_m (by decide) rfl) ?_
  refine AW.iload dX7_letGo_36 rfl ?_
  refine AW.callS (as := [vi _]) dX7_letGo_38 rfl rfl rfl okX7_bit lkX7_256 rfl rfl rfl rfl rfl rfl (kX7_bit (by omega) (AW.k1 ?_))
  refine AW.ldc2 dX7_letGo_41 lkX7_281 ?_
  refine AW.pcs (pc2 := 44) rfl ?_
  refine AW.lxor dX7_letGo_44 ?_
  refine AW.land dX7_letGo_45 ?_
  refine AW.putL (j := 4) dX7_letGo_46 FW.o rfl rfl inC1 lkX7_278 rfl (Or.inl rfl) ?_
  refine AW.aload_n dX7_letGo_49 rfl ?_
  refine AW.getRE (j := 0) FW.o dX7_letGo_50 lkX7_247 rfl rfl inC1 rfl FW.r0 ?_
  refine AW.aload_n dX7_letGo_53 rfl ?_
  refine AW.aload_n dX7_letGo_54 rfl ?_
  refine AW.getRE (j := 0) FW.o dX7_letGo_55 lkX7_247 rfl rfl inC1 rfl FW.r0 ?_
  refine AW.callV (as := [vq _]) dX7_letGo_58 rfl rfl rfl okX7_heldUpOf lkX7_165 W.o rfl rfl rfl rfl rfl rfl rfl (sX7_heldUpOf (s := (Z 14 k).toNat) hS1 BY.2.2.2.1 (by have : zLet0 Z k n 0 = Z 0 := rfl; rw [this]; omega) (fun x hx => (AW.k1 ?_)))
  refine AW.callV (as := [vl _]) dX7_letGo_61 rfl rfl rfl okX4_takeOffWaiting lkX7_293 W5.o rfl rfl rfl rfl rfl rfl rfl (sX4_takeOffWaiting (s := (Z 14 k).toNat) hS1 BY (by have : zLet0 Z k n 0 = Z 0 := rfl; rw [this]; omega) hx (fun g' S' F' => (AW.k1 ?_)))
  refine AW.iret dX7_letGo_64 rfl ?_
  rw [e14] at S' ⊢
  exact k0 e0 g' ⟨A, S'⟩ (((Fr.rf.wL (fun z => by rcases z with z | z <;> simp at z)).wL (fun z => by rcases z with z | z <;> simp at z)).tr F')
set_option maxHeartbeats 1000000 in
theorem sX7_retire {g : Int} (S : SIM h Z c) (B : ZB Z) (k1 : zcRet Z g = 1 → Q h (.inr eIx)) (k2 : zcRet Z g = 2 → Q h (.inr eIs))
    (k0 : zcRet Z g = 0 → ∀ g', SIM g' (zla (zRet0 Z g) (Z 14 g.toNat)) c → Fr nMo h g' → Q g' (.inl (some (vi (zlaN (zRet0 Z g) (Z 14 g.toNat)))))) : AC mX7_retire fX7_retire loX7_retire 140 380 h [vr mF, vi g] Q := by
  obtain ⟨A, S⟩ := S
  have W := S.1.1
  have C := S.1.2.1
  have eC := S.1.2.2.1.2.1
  have zz := S.zz
  have z13 := S.c13
  refine AC.mk (by decide) (Nat.le_of_ble_eq_true rfl) ?_
  by_cases hg : ¬ (0 ≤ g ∧ g < Z 13 0)
  · have e1 : zcRet Z g = 1 := cd2_1 (fun z => hg ⟨by omega, by omega⟩)
    refine AW.aload_n dX7_retire_0 rfl ?_
    refine AW.iload_n dX7_retire_1 rfl ?_
    refine AW.callV (as := [vi _]) dX7_retire_2 rfl rfl rfl okX7_formAt lkX7_243 W.o rfl rfl rfl rfl rfl rfl rfl (kX7_formAt W C (fun _ => k1 e1) (fun z => absurd (eC ▸ z) hg))
    skip
  have hg := Classical.not_not.mp hg
  obtain ⟨k, rfl⟩ := Int.eq_ofNat_of_zero_le hg.1
  have FFk := S.2.2.2.1 k hg.2
  obtain ⟨FW, F2, ⟨F3, F4⟩, F5, F6, F7⟩ := FFk
  have e14 : (((Z 14 k).toNat : Nat) : Int) = Z 14 k := by omega
  rw [Int.toNat_natCast] at k0
  have g1 : ¬ ¬ (0 ≤ (k : Int) ∧ (k : Int) ≤ Z 13 0 - 1) := fun z => z ⟨by omega, by omega⟩
  have Y17 : ∀ k' f : Nat, k' < 8 → f < 48 → zRet0 Z k 17 (48 * k' + f) = if k' = k then 0 else Z 17 (48 * k' + f) := fun k' f h8 h48 => by
    unfold zRet0 zclr
    by_cases z : k' = k
    · rw [if_pos z, if_pos ⟨rfl, by omega, by omega⟩]
    · rw [if_neg z, if_neg (by omega)]; rfl
  have Yo : ∀ j, ¬ j = 17 → ¬ j = 16 → ¬ j = 48 → zRet0 Z k j = Z j := fun j h17 h16 h48 => by
    funext i
    unfold zRet0 zclr
    rw [if_neg (fun z => h17 z.1), zs_ne (beq_ne h16) (zs_ne (beq_ne h48) rfl)]
  have Y16 : ∀ k' : Nat, zRet0 Z k 16 k' = if k' = k then 1 else Z 16 k' := fun k' => by
    unfold zRet0 zclr
    rw [if_neg (fun z => absurd z.1 (by decide)), Int.toNat_natCast]
    by_cases z : k' = k
    · rw [if_pos z, zs_eq z rfl]
    · rw [if_neg z, zs_miss z (zs_ne rfl rfl)]
  have BY : BI (zRet0 Z k) := BI_zclr (BI_fl rfl (Or.inr rfl) (BI_zs rfl B.1))
  have y0 : zRet0 Z k 0 = Z 0 := Yo 0 (by decide) (by decide) (by decide)
  have hS1 : SIMq A 9 (sL (sL (sI h (8, k, 0) 2 0) (8, k, 0) 3 0) (8, k, 0) 4 0) (zRet0 Z k) c := by
    refine S.fo hg.2 (((Fr.rf.wI (fun z => z rfl)).wL (fun z => z rfl)).wL (fun z => z rfl)) rfl (foO (j := 0) (fun j h14 h15 h16 h17 h18 h48 => Yo j h17 h16 h48)) (fun k' h8 hne => ⟨by rw [Yo 14 (by decide) (by decide) (by decide)], by rw [Yo 15 (by decide) (by decide) (by decide)], by rw [Y16, if_neg hne], fun f hf => ⟨by rw [Y17 k' f h8 hf, if_neg hne], by rw [Yo 18 (by decide) (by decide) (by decide)]⟩⟩) ?_
    have c3 : hL (sL (sL (sI h (8, k, 0) 2 0) (8, k, 0) 3 0) (8, k, 0) 4 0) (8, k, 0) 3 = 0 := by rw [hL_m (by decide) (hL_e rfl rfl)]
    have c4 : hL (sL (sL (sI h (8, k, 0) 2 0) (8, k, 0) 3 0) (8, k, 0) 4 0) (8, k, 0) 4 = 0 := by rw [hL_e rfl rfl]
    refine ⟨?_, ?_, ⟨?_, ?_⟩, fun f hf => ?_, fun f hf => ?_, fun z f hf => ?_⟩
    · rw [Yo 14 (by decide) (by decide) (by decide)]; exact FW
    · rw [Yo 14 (by decide) (by decide) (by decide), y0]; exact F2
    · rw [Yo 15 (by decide) (by decide) (by decide)]; exact (hI_m (h := h) (n := (8, k, 0)) (i := 1) (j := 2) (v := 0) (by decide) F3)
    · rw [Y16, if_pos rfl]; exact hI_e rfl rfl
    · rw [c3, c4]
      refine ⟨⟨fun z => absurd z bt_0, fun z => ?_⟩, ⟨fun z => absurd z bt_0, fun z => ?_⟩⟩
      · rw [Y17 k f (by omega) z.1, if_pos rfl] at z; exact absurd rfl z.2
      · rw [Y17 k f (by omega) z.1, if_pos rfl] at z; exact absurd rfl z.2.1
    · rw [Y17 k f (by omega) hf, if_pos rfl]; intro z; exact absurd rfl z
    · rw [Y17 k f (by omega) hf, if_pos rfl]
  obtain ⟨S1', K', SQ1'⟩ := hS1.sc (s := (Z 14 k).toNat) (by rw [y0]; omega)
  have W5 := S1'.1
  refine AW.aload_n dX7_retire_0 rfl ?_
  refine AW.iload_n dX7_retire_1 rfl ?_
  refine AW.callV (as := [vi _]) dX7_retire_2 rfl rfl rfl okX7_formAt lkX7_243 W.o rfl rfl rfl rfl rfl rfl rfl (kX7_formN W C (by rw [eC]; exact hg.2) (AW.k1 ?_))
  refine AW.astore_n dX7_retire_5 rfl ?_
  refine AW.aload_n dX7_retire_6 rfl ?_
  refine AW.getIE (j := 2) FW.o dX7_retire_7 lkX7_264 rfl rfl inC1 rfl (by exact F4) ?_
  refine AW.if_ne (tgt := 24) dX7_retire_10 rfl (fun c_10 => ?_) (fun c_10 => ?_)
  · have e0 : zcRet Z k = 0 := cd2_z g1 (by rw [Int.toNat_natCast]; exact fun z => z (bz_n0.mp c_10))
    refine AW.aload_n dX7_retire_24 rfl ?_
    refine AW.iconst dX7_retire_25 (by decide) ?_
    refine AW.putI (j := 2) dX7_retire_26 FW.o rfl rfl inC1 lkX7_264 rfl (Or.inl rfl) (Or.inr ⟨rfl, (by exact Or.inl rfl)⟩) ?_
    refine AW.aload_n dX7_retire_29 rfl ?_
    refine AW.lconst dX7_retire_30 ?_
    refine AW.putL (j := 3) dX7_retire_31 FW.o rfl rfl inC1 lkX7_274 rfl (Or.inl rfl) ?_
    refine AW.aload_n dX7_retire_34 rfl ?_
    refine AW.lconst dX7_retire_35 ?_
    refine AW.putL (j := 4) dX7_retire_36 FW.o rfl rfl inC1 lkX7_278 rfl (Or.inl rfl) ?_
    refine AW.aload_n dX7_retire_39 rfl ?_
    refine AW.getRE (j := 0) FW.o dX7_retire_40 lkX7_247 rfl rfl inC1 rfl FW.r0 ?_
    refine AW.aload_n dX7_retire_43 rfl ?_
    refine AW.aload_n dX7_retire_44 rfl ?_
    refine AW.getRE (j := 0) FW.o dX7_retire_45 lkX7_247 rfl rfl inC1 rfl FW.r0 ?_
    refine AW.callV (as := [vq _]) dX7_retire_48 rfl rfl rfl okX7_heldUpOf lkX7_165 W.o rfl rfl rfl rfl rfl rfl rfl (sX7_heldUpOf (s := (Z 14 k).toNat) hS1 BY.2.2.2.1 (by rw [y0]; omega) (fun x hx => (AW.k1 ?_)))
    refine AW.callV (as := [vl _]) dX7_retire_51 rfl rfl rfl okX4_takeOffWaiting lkX7_293 W5.o rfl rfl rfl rfl rfl rfl rfl (sX4_takeOffWaiting (s := (Z 14 k).toNat) hS1 BY (by rw [y0]; omega) hx (fun g' S' F' => (AW.k1 ?_)))
    refine AW.iret dX7_retire_54 rfl ?_
    rw [e14] at S' ⊢
    exact k0 e0 g' ⟨A, S'⟩ ((((Fr.rf.wI (fun z => by rcases z with z | z <;> simp at z)).wL (fun z => by rcases z with z | z <;> simp at z)).wL (fun z => by rcases z with z | z <;> simp at z)).tr F')
  · refine AW.throwW dX7_retire_13 dX7_retire_16 dX7_retire_17 dX7_retire_20 dX7_retire_23 rfl okTX7_50 strX7_296 rfl rfl rfl rfl rfl ?_
    exact k2 (cd2_2 g1 (by rw [Int.toNat_natCast]; exact bz_0.mp c_10))
end H1

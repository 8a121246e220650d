/-! ===== the relation: the face: take ===== -/
section N0
variable {Q : AH → AO → Prop} {h g G : AH} {Z Y X : ZT} {c q s k : Nat} {A : Nat → Nat}
theorem zca_ex {t : Nat → Int} : ∀ n, ¬ zca t n = 0 ↔ ∃ f, f < n ∧ ¬ t f = 0
  | 0 => ⟨fun z => absurd rfl z, fun ⟨f, hf, _⟩ => absurd hf (by omega)⟩
  | n + 1 => by
    unfold zca
    rw [bz_n0, zca_ex n]
    constructor
    · rintro (⟨f, hf, e⟩ | e)
      · exact ⟨f, by omega, e⟩
      · exact ⟨n, by omega, e⟩
    · rintro ⟨f, hf, e⟩
      by_cases z : f = n
      · exact Or.inr (z ▸ e)
      · exact Or.inl ⟨f, by omega, e⟩
theorem zcb_ex {s : Int} {t : Nat → Int} : ∀ n, ¬ zcb Z s t n = 0 ↔ ∃ f : Nat, f < n ∧ ¬ t f = 0 ∧ ¬ zwt Z s (f : Int) = 0
  | 0 => ⟨fun z => absurd rfl z, fun ⟨f, hf, _⟩ => absurd hf (by omega)⟩
  | n + 1 => by
    unfold zcb
    rw [bz_n0, zcb_ex n]
    constructor
    · rintro (⟨f, hf, e⟩ | e)
      · exact ⟨f, by omega, e⟩
      · exact ⟨n, by omega, e⟩
    · rintro ⟨f, hf, e⟩
      by_cases z : f = n
      · exact Or.inr (z ▸ e)
      · exact Or.inl ⟨f, by omega, e⟩
theorem bt_n0 {x : Int64} : ¬ x = 0 ↔ ∃ f : Nat, f < 64 ∧ bt x f := by
  constructor
  · intro z
    refine Classical.byContradiction (fun y => z (bt_ext (fun f hf => ⟨fun w => absurd ⟨f, hf, w⟩ y, fun w => absurd w bt_0⟩)))
  · rintro ⟨f, _, w⟩ e
    subst e
    exact absurd w bt_0
/-- whether a field may be taken, by the bits -/
theorem zct_bits (S : SIMq A 9 h Z c) (hk : (k : Int) < Z 13 0) (G : 0 ≤ Z 15 k ∧ Z 15 k ≤ Z 1 (Z 14 k).toNat) {F : Int} (hF : 0 ≤ F ∧ F < Z 2 (Z 14 k).toNat) :
    ¬ zct Z (k : Int) F = 0 ↔ ¬ ctr h (Z 14 k).toNat (Z 15 k).toNat (bitI F) = 0 ∧ ctr h (Z 14 k).toNat (Z 15 k).toNat (bitI F) &&& cal h (Z 14 k).toNat = 0 := by
  have F2 := (S.2.2.2.1 k hk).2.1
  obtain ⟨S1, K, SQ1⟩ := S.sc (s := (Z 14 k).toNat) (by omega)
  have SQ1 := SQ1 (by have := S.zz; omega)
  have b2 := K.b2
  have e14 : (((Z 14 k).toNat : Nat) : Int) = Z 14 k := by omega
  have e15 : (((Z 15 k).toNat : Nat) : Int) = Z 15 k := by omega
  have q0 : BQ (bitI F) (fun q => bz ((q : Int) = F)) := fun f hf => by
    rw [bit_bt (by omega) (by omega), bz_n0]
    exact ⟨fun z => ⟨by omega, z⟩, fun z => z.2⟩
  have q1 := q0.tr S1 K (v := (Z 15 k).toNat) (by omega)
  have sup := zfo_sup (v := (Z 15 k).toNat) K (t := fun q => bz ((q : Int) = F)) (fun f hf z => by have := bz_n0.mp z; omega) (Z 1 (Z 14 k).toNat - Z 15 k).toNat (by omega)
  have eT : zTr Z (Z 14 k) (Z 15 k) F = zfo Z ((Z 14 k).toNat : Nat) ((Z 15 k).toNat : Nat) (fun q => bz ((q : Int) = F)) (Z 1 (Z 14 k).toNat - Z 15 k).toNat := by
    unfold zTr; rw [e14, e15]
  rw [show (Z 1 (Z 14 k).toNat - ((Z 15 k).toNat : Int)).toNat = (Z 1 (Z 14 k).toNat - Z 15 k).toNat by rw [e15]] at q1
  unfold zct
  rw [Int.toNat_natCast, eT, bz_n0, zca_ex]
  have e2 : ¬ zcb Z (Z 14 k) (zfo Z ((Z 14 k).toNat : Nat) ((Z 15 k).toNat : Nat) (fun q => bz ((q : Int) = F)) (Z 1 (Z 14 k).toNat - Z 15 k).toNat) (Z 2 (Z 14 k).toNat).toNat = 0 ↔ ¬ ctr h (Z 14 k).toNat (Z 15 k).toNat (bitI F) &&& cal h (Z 14 k).toNat = 0 := by
    rw [zcb_ex, bt_n0]
    constructor
    · rintro ⟨f, hf, e, w⟩
      refine ⟨f, by omega, bt_and.mpr ⟨(q1 f (by omega)).mpr ⟨by omega, e⟩, (SQ1.wt ⟨by omega, by omega⟩).mpr (by rw [e14]; exact w)⟩⟩
    · rintro ⟨f, hf, w⟩
      obtain ⟨w1, w2⟩ := bt_and.mp w
      obtain ⟨h48, w3⟩ := (q1 f hf).mp w1
      have := sup f h48 w3
      exact ⟨f, by omega, w3, by have := (SQ1.wt ⟨by omega, by omega⟩).mp w2; rw [e14] at this; exact this⟩
  have e1 : (∃ f : Nat, f < (Z 2 (Z 14 k).toNat).toNat ∧ ¬ zfo Z ((Z 14 k).toNat : Nat) ((Z 15 k).toNat : Nat) (fun q => bz ((q : Int) = F)) (Z 1 (Z 14 k).toNat - Z 15 k).toNat f = 0) ↔ ¬ ctr h (Z 14 k).toNat (Z 15 k).toNat (bitI F) = 0 := by
    rw [bt_n0]
    constructor
    · rintro ⟨f, hf, e⟩
      exact ⟨f, by omega, (q1 f (by omega)).mpr ⟨by omega, e⟩⟩
    · rintro ⟨f, hf, w⟩
      obtain ⟨h48, w3⟩ := (q1 f hf).mp w
      have := sup f h48 w3
      exact ⟨f, by omega, w3⟩
  rw [e1]
  refine and_congr Iff.rfl ?_
  exact ⟨fun z => Classical.byContradiction (fun y => absurd z (e2.mpr y)), fun z => Classical.byContradiction (fun y => absurd z (e2.mp y))⟩
set_option maxHeartbeats 1000000 in
/-- a field taken -/
theorem X_tak {n F w : Int} {L4 : Int64} (S : SIMq A 9 h Z c) (hk : (k : Int) < Z 13 0) (eF : zinF Z (k : Int) n = F) (hF : 0 ≤ F ∧ F < Z 2 (Z 14 k).toNat) (ha : Z 16 k = 0) (hw : (w = 1 ∧ L4 = hL h (8, k, 0) 4 ||| bitI F) ∨ (w = 0 ∧ L4 = hL h (8, k, 0) 4 &&& (bitI F ^^^ (-1)))) :
    (SIMq A 9 (sL (sL h (8, k, 0) 3 (hL h (8, k, 0) 3 ||| bitI F)) (8, k, 0) 4 L4) (zTak Z k n w) c ∧ Fr nMo h (sL (sL h (8, k, 0) 3 (hL h (8, k, 0) 3 ||| bitI F)) (8, k, 0) 4 L4)) ∧ bcv (hL h (8, k, 0) 3 ||| bitI F) = zheA (zTak Z k n w) (k : Int) 48 := by
  have z13 := S.c13
  obtain ⟨FW, F2, ⟨F3, F4⟩, F5, F6, F7⟩ := S.2.2.2.1 k hk
  obtain ⟨S1, K, SQ1⟩ := S.sc (s := (Z 14 k).toNat) (by omega)
  have b2 := K.b2
  have Yo : ∀ j, ¬ j = 17 → ¬ j = 18 → ¬ j = 48 → zTak Z k n w j = Z j := fun j h17 h18 h48 => by unfold zTak; rw [zs_oj (beq_ne h18), zs_oj (beq_ne h17), zs_oj (beq_ne h48)]
  have Y17 : ∀ k' f : Nat, f < 48 → zTak Z k n w 17 (48 * k' + f) = if k' = k ∧ (f : Int) = F then 1 else Z 17 (48 * k' + f) := fun k' f hf => by
    unfold zTak
    rw [eF]
    refine zs_ne rfl ?_
    rw [zs_if]
    by_cases z : k' = k ∧ (f : Int) = F
    · rw [if_pos z, if_pos (by omega)]
    · rw [if_neg z, if_neg (by omega)]; exact zs_ne rfl rfl
  have Y18 : ∀ k' f : Nat, f < 48 → zTak Z k n w 18 (48 * k' + f) = if k' = k ∧ (f : Int) = F then w else Z 18 (48 * k' + f) := fun k' f hf => by
    unfold zTak
    rw [eF, zs_if]
    by_cases z : k' = k ∧ (f : Int) = F
    · rw [if_pos z, if_pos (by omega)]
    · rw [if_neg z, if_neg (by omega)]; exact zs_ne rfl (zs_ne rfl rfl)
  have c3 : hL (sL (sL h (8, k, 0) 3 (hL h (8, k, 0) 3 ||| bitI F)) (8, k, 0) 4 L4) (8, k, 0) 3 = hL h (8, k, 0) 3 ||| bitI F := by rw [hL_m (by decide) (hL_e rfl rfl)]
  have c4 : hL (sL (sL h (8, k, 0) 3 (hL h (8, k, 0) 3 ||| bitI F)) (8, k, 0) 4 L4) (8, k, 0) 4 = L4 := by rw [hL_e rfl rfl]
  have b3 : ∀ f : Nat, f < 64 → (bt (hL h (8, k, 0) 3 ||| bitI F) f ↔ f < 48 ∧ ¬ zTak Z k n w 17 (48 * k + f) = 0) := fun f hf => by
    rw [bt_set (by omega) hf, (F5 f hf).1]
    by_cases y : f < 48
    · rw [Y17 k f y]
      by_cases z : (f : Int) = F
      · rw [if_pos ⟨rfl, z⟩]; exact ⟨fun _ => ⟨y, by decide⟩, fun _ => Or.inr z⟩
      · rw [if_neg (fun t => z t.2)]; exact ⟨fun t => t.resolve_right z, fun t => Or.inl t⟩
    · exact ⟨fun t => t.elim (fun t => absurd t.1 y) (fun t => by omega), fun t => absurd t.1 y⟩
  have hS1 : SIMq A 9 (sL (sL h (8, k, 0) 3 (hL h (8, k, 0) 3 ||| bitI F)) (8, k, 0) 4 L4) (zTak Z k n w) c := by
    refine S.fo hk ((Fr.rf.wL (fun z => z rfl)).wL (fun z => z rfl)) rfl (foO (j := 0) (fun j h14 h15 h16 h17 h18 h48 => Yo j h17 h18 h48)) (fun k' h8 hne => ⟨by rw [Yo 14 (by decide) (by decide) (by decide)], by rw [Yo 15 (by decide) (by decide) (by decide)], by rw [Yo 16 (by decide) (by decide) (by decide)], fun f hf => ⟨by rw [Y17 k' f hf, if_neg (fun z => hne z.1)], by rw [Y18 k' f hf, if_neg (fun z => hne z.1)]⟩⟩) ?_
    unfold FF
    rw [Yo 14 (by decide) (by decide) (by decide), Yo 15 (by decide) (by decide) (by decide), Yo 16 (by decide) (by decide) (by decide), Yo 0 (by decide) (by decide) (by decide), Yo 2 (by decide) (by decide) (by decide), c3, c4]
    refine ⟨FW, F2, ⟨F3, F4⟩, fun f hf => ⟨b3 f hf, ?_⟩, fun f hf => ?_, fun z => absurd ha z⟩
    · have x4 := (F5 f hf).2
      by_cases y : f < 48
      · rw [Y17 k f y, Y18 k f y]
        rcases hw with ⟨w1, e⟩ | ⟨w1, e⟩ <;> subst e <;> subst w1
        · rw [bt_set (by omega) hf, x4]
          by_cases z : (f : Int) = F
          · rw [if_pos ⟨rfl, z⟩, if_pos ⟨rfl, z⟩]; exact ⟨fun _ => ⟨y, by decide, by decide⟩, fun _ => Or.inr z⟩
          · rw [if_neg (fun t => z t.2), if_neg (fun t => z t.2)]; exact ⟨fun t => t.resolve_right z, fun t => Or.inl t⟩
        · rw [bt_clr (by omega) hf, x4]
          by_cases z : (f : Int) = F
          · rw [if_pos ⟨rfl, z⟩, if_pos ⟨rfl, z⟩]; exact ⟨fun t => absurd z t.2, fun t => absurd rfl t.2.2⟩
          · rw [if_neg (fun t => z t.2), if_neg (fun t => z t.2)]; exact ⟨fun t => t.1, fun t => ⟨t, z⟩⟩
      · rcases hw with ⟨w1, e⟩ | ⟨w1, e⟩ <;> subst e
        · rw [bt_set (by omega) hf, x4]; exact ⟨fun t => t.elim (fun t => absurd t.1 y) (fun t => by omega), fun t => absurd t.1 y⟩
        · rw [bt_clr (by omega) hf, x4]; exact ⟨fun t => absurd t.1.1 y, fun t => absurd t.1 y⟩
    · rw [Y17 k f hf]
      split
      · next z => intro _; omega
      · exact F6 f hf
  refine ⟨⟨hS1, (Fr.rf.wL (fun z => by rcases z with z | z <;> simp at z)).wL (fun z => by rcases z with z | z <;> simp at z)⟩, cb_heA b3⟩
set_option maxHeartbeats 1000000 in
theorem sX7_take {g n w : Int} (S : SIM h Z c) (B : ZB Z) (hw : w = 0 ∨ w = 1) (k1 : zcTak Z g n = 1 → Q h (.inr eIx)) (k2 : zcTak Z g n = 2 → Q h (.inr eIs))
    (k0 : zcTak Z g n = 0 → ∀ g', SIM g' (zTak Z g n w) c → Fr nMo h g' → Q g' (.inl (some (vi (zheA (zTak Z g n w) g 48))))) : AC mX7_take fX7_take loX7_take 4 24 h [vr mF, vi g, vi n, vi w] Q := by
  obtain ⟨A, S⟩ := S
  have W := S.1.1
  have C := S.1.2.1
  have eC := S.1.2.2.1.2.1
  have zz := S.zz
  have z13 := S.c13
  refine AC.mk (by decide) (Nat.le_of_ble_eq_true rfl) ?_
  by_cases hg : ¬ (0 ≤ g ∧ g < Z 13 0)
  · have e1 : zcTak Z g n = 1 := cd2_1 (by unfold zinF; rw [if_neg (by omega)])
    refine AW.aload_n dX7_take_0 rfl ?_
    refine AW.iload_n dX7_take_1 rfl ?_
    refine AW.callV (as := [vi _]) dX7_take_2 rfl rfl rfl okX7_formAt lkX7_243 W.o rfl rfl rfl rfl rfl rfl rfl (kX7_formAt W C (fun _ => k1 e1) (fun z => absurd (eC ▸ z) hg))
    skip
  have hg := Classical.not_not.mp hg
  obtain ⟨k, rfl⟩ := Int.eq_ofNat_of_zero_le hg.1
  have FFk := S.2.2.2.1 k hg.2
  have Gk := (B.1.2.2.2.1.2 k (by omega)).2.2
  have eFi := FF.fnd (n := n) S hg.2 Gk
  have zb := fun F hF => zct_bits (F := F) S hg.2 Gk hF
  have xt := fun F (L4 : Int64) (eF : zinF Z (k : Int) n = F) hF ha hwL => X_tak (n := n) (F := F) (w := w) (L4 := L4) S hg.2 eF hF ha hwL
  obtain ⟨FW, F2, ⟨F3, F4⟩, F5, F6, F7⟩ := FFk
  obtain ⟨S1, K, SQ1⟩ := S.sc (s := (Z 14 k).toNat) (by omega)
  have SQ1 := SQ1 (by omega)
  have b1 := K.b1
  have b2 := K.b2
  have W5 := S1.1
  have B5 := S1.sb K (by rw [SQ1.1]; exact SQ1.2.1)
  have rF := S1.fr K (v := Z 15 k) (n := n)
  rw [F3] at eFi
  generalize eF : cfn h (Z 14 k).toNat (Z 15 k) n = F at eFi rF
  by_cases hF : F = -1
  · have e1 : zcTak Z k n = 1 := cd2_1 (eFi.trans hF)
    refine AW.aload_n dX7_take_0 rfl ?_
    refine AW.iload_n dX7_take_1 rfl ?_
    refine AW.callV (as := [vi _]) dX7_take_2 rfl rfl rfl okX7_formAt lkX7_243 W.o rfl rfl rfl rfl rfl rfl rfl (kX7_formN W C (by rw [eC]; exact hg.2) (AW.k1 ?_))
    refine AW.astore dX7_take_5 rfl ?_
    refine AW.aload dX7_take_7 rfl ?_
    refine AW.getRE (j := 0) FW.o dX7_take_9 lkX7_247 rfl rfl inC1 rfl FW.r0 ?_
    refine AW.aload dX7_take_12 rfl ?_
    refine AW.getIE (j := 1) FW.o dX7_take_14 lkX7_251 rfl rfl inC1 rfl (by exact F3) ?_
    refine AW.iload_n dX7_take_17 rfl ?_
    refine AW.callV (as := [vi _, vi _]) dX7_take_18 rfl rfl rfl okX4_fieldNamed lkX7_78 W5.o rfl rfl rfl rfl rfl rfl rfl (kX4_fieldNamedE W5 B5 eF (AW.k1 ?_))
    refine AW.istore dX7_take_21 rfl ?_
    refine AW.iload dX7_take_23 rfl ?_
    refine AW.iconst dX7_take_25 (by decide) ?_
    refine AW.icmp_ne (tgt := 39) dX7_take_26 rfl (fun c_26 => ?_) (fun c_26 => ?_)
    · exact absurd hF c_26
    · refine AW.throwS dX7_take_29 dX7_take_32 dX7_take_33 dX7_take_35 dX7_take_38 rfl okTX7_186 strX7_254 rfl rfl rfl rfl rfl ?_
      exact k1 e1
  obtain ⟨rv, rn, rF0, rF1, rF5⟩ := rF.resolve_left hF
  have zb := zb F ⟨rF0, rF1⟩
  have c1 : ¬ zinF Z (k : Int) n = -1 := by rw [eFi]; exact hF
  have St := S1.sts K
  have ev : Z 15 k = (((Z 15 k).toNat : Nat) : Int) := by omega
  by_cases ok : Z 16 k = 0 ∧ ¬ zct Z (k : Int) F = 0
  · have e0 : zcTak Z k n = 0 := cd2_z c1 (by rw [eFi, Int.toNat_natCast]; omega)
    obtain ⟨t1, t2⟩ := zb.mp ok.2
    have xa := fun L4 hwL => xt F L4 eFi ⟨rF0, rF1⟩ ok.1 hwL
    refine AW.aload_n dX7_take_0 rfl ?_
    refine AW.iload_n dX7_take_1 rfl ?_
    refine AW.callV (as := [vi _]) dX7_take_2 rfl rfl rfl okX7_formAt lkX7_243 W.o rfl rfl rfl rfl rfl rfl rfl (kX7_formN W C (by rw [eC]; exact hg.2) (AW.k1 ?_))
    refine AW.astore dX7_take_5 rfl ?_
    refine AW.aload dX7_take_7 rfl ?_
    refine AW.getRE (j := 0) FW.o dX7_take_9 lkX7_247 rfl rfl inC1 rfl FW.r0 ?_
    refine AW.aload dX7_take_12 rfl ?_
    refine AW.getIE (j := 1) FW.o dX7_take_14 lkX7_251 rfl rfl inC1 rfl (by exact F3) ?_
    refine AW.iload_n dX7_take_17 rfl ?_
    refine AW.callV (as := [vi _, vi _]) dX7_take_18 rfl rfl rfl okX4_fieldNamed lkX7_78 W5.o rfl rfl rfl rfl rfl rfl rfl (kX4_fieldNamedE W5 B5 eF (AW.k1 ?_))
    refine AW.istore dX7_take_21 rfl ?_
    refine AW.iload dX7_take_23 rfl ?_
    refine AW.iconst dX7_take_25 (by decide) ?_
    refine AW.icmp_ne (tgt := 39) dX7_take_26 rfl (fun c_26 => ?_) (fun c_26 => ?_)
    · refine AW.aload dX7_take_39 rfl ?_
      refine AW.getRE (j := 0) FW.o dX7_take_41 lkX7_247 rfl rfl inC1 rfl FW.r0 ?_
      refine AW.iload dX7_take_44 rfl ?_
      refine AW.callS (as := [vi _]) dX7_take_46 rfl rfl rfl okX7_bit lkX7_256 rfl rfl rfl rfl rfl rfl (kX7_bit (by omega) (AW.k1 ?_))
      refine AW.aload dX7_take_49 rfl ?_
      refine AW.getIE (j := 1) FW.o dX7_take_51 lkX7_251 rfl rfl inC1 rfl (by exact F3.trans ev) ?_
      refine AW.callV (as := [vl _, vi _]) dX7_take_54 rfl rfl rfl okX4_tracesOf lkX7_260 W5.o rfl rfl rfl rfl rfl rfl rfl (kX4_tracesOf W5 B5 St (by rw [S1.hd]; omega) (AW.k1 ?_))
      refine AW.lstore dX7_take_57 rfl ?_
      refine AW.aload dX7_take_59 rfl ?_
      refine AW.getIE (j := 2) FW.o dX7_take_61 lkX7_264 rfl rfl inC1 rfl (by exact F4.trans (bz_1.mpr ok.1)) ?_
      refine AW.if_eq (tgt := 90) dX7_take_64 rfl (fun c_64 => ?_) (fun c_64 => ?_)
      · exact absurd c_64 (by decide)
      · refine AW.lload dX7_take_67 rfl ?_
        refine AW.lconst dX7_take_69 ?_
        refine AW.lcmp dX7_take_70 ?_
        refine AW.if_eq (tgt := 90) dX7_take_71 rfl (fun c_71 => ?_) (fun c_71 => ?_)
        · exact absurd (lcm_z.mp c_71) t1
        · refine AW.lload dX7_take_74 rfl ?_
          refine AW.aload dX7_take_76 rfl ?_
          refine AW.getRE (j := 0) FW.o dX7_take_78 lkX7_247 rfl rfl inC1 rfl FW.r0 ?_
          refine AW.callV (as := []) dX7_take_81 rfl rfl rfl okX4_allWaiting lkX7_268 W5.o rfl rfl rfl rfl rfl rfl rfl (kX4_allWaiting W5 B5 SQ1.2.2.2.2 (AW.k1 ?_))
          refine AW.land dX7_take_84 ?_
          refine AW.lconst dX7_take_85 ?_
          refine AW.lcmp dX7_take_86 ?_
          refine AW.if_eq (tgt := 101) dX7_take_87 rfl (fun c_87 => ?_) (fun c_87 => ?_)
          · refine AW.aload dX7_take_101 rfl ?_
            refine AW.dup dX7_take_103 rfl ?_
            refine AW.getLE (j := 3) FW.o dX7_take_104 lkX7_274 rfl rfl inC1 rfl (by (repeat first | apply hI_n1 rfl | apply hI_n3 rfl | apply hI_e (by omega) | apply hI_m (by omega)); exact rfl) ?_
            refine AW.iload dX7_take_107 rfl ?_
            refine AW.callS (as := [vi _]) dX7_take_109 rfl rfl rfl okX7_bit lkX7_256 rfl rfl rfl rfl rfl rfl (kX7_bit (by omega) (AW.k1 ?_))
            refine AW.lor dX7_take_112 ?_
            refine AW.putL (j := 3) dX7_take_113 FW.o rfl rfl inC1 lkX7_274 rfl (Or.inl rfl) ?_
            refine AW.aload dX7_take_116 rfl ?_
            refine AW.iload_n dX7_take_118 rfl ?_
            refine AW.if_eq (tgt := 136) dX7_take_119 rfl (fun c_119 => ?_) (fun c_119 => ?_)
            · refine AW.aload dX7_take_136 rfl ?_
              refine AW.getLE (j := 4) FW.o dX7_take_138 lkX7_278 rfl rfl inC1 rfl (by exact hL_m (by decide) rfl) ?_
              refine AW.iload dX7_take_141 rfl ?_
              refine AW.callS (as := [vi _]) dX7_take_143 rfl rfl rfl okX7_bit lkX7_256 rfl rfl rfl rfl rfl rfl (kX7_bit (by omega) (AW.k1 ?_))
              refine AW.ldc2 dX7_take_146 lkX7_281 ?_
              refine AW.lxor dX7_take_149 ?_
              refine AW.land dX7_take_150 ?_
              refine AW.putL (j := 4) dX7_take_151 FW.o rfl rfl inC1 lkX7_278 rfl (Or.inl rfl) ?_
              refine AW.aload dX7_take_154 rfl ?_
              refine AW.getLE (j := 3) FW.o dX7_take_156 lkX7_274 rfl rfl inC1 rfl (by exact hL_m (by decide) (hL_e rfl rfl)) ?_
              refine AW.callSF (as := [vl _]) dX7_take_159 rfl rfl rfl okJ13_bitCount lkX7_283 rfl rfl rfl rfl rfl (kJ13_bitCount (AW.k1 ?_))
              refine AW.iret dX7_take_162 rfl ?_
              have P := xa _ (by first | exact Or.inl ⟨by omega, rfl⟩ | exact Or.inr ⟨c_119, rfl⟩)
              refine fin1 (k0 e0 _ ⟨A, P.1.1⟩ P.1.2) rfl ?_
              exact P.2
            · refine AW.aload dX7_take_122 rfl ?_
              refine AW.getLE (j := 4) FW.o dX7_take_124 lkX7_278 rfl rfl inC1 rfl (by exact hL_m (by decide) rfl) ?_
              refine AW.iload dX7_take_127 rfl ?_
              refine AW.callS (as := [vi _]) dX7_take_129 rfl rfl rfl okX7_bit lkX7_256 rfl rfl rfl rfl rfl rfl (kX7_bit (by omega) (AW.k1 ?_))
              refine AW.lor dX7_take_132 ?_
              refine AW.goto (tgt := 151) dX7_take_133 rfl ?_
              refine AW.putL (j := 4) dX7_take_151 FW.o rfl rfl inC1 lkX7_278 rfl (Or.inl rfl) ?_
              refine AW.aload dX7_take_154 rfl ?_
              refine AW.getLE (j := 3) FW.o dX7_take_156 lkX7_274 rfl rfl inC1 rfl (by exact hL_m (by decide) (hL_e rfl rfl)) ?_
              refine AW.callSF (as := [vl _]) dX7_take_159 rfl rfl rfl okJ13_bitCount lkX7_283 rfl rfl rfl rfl rfl (kJ13_bitCount (AW.k1 ?_))
              refine AW.iret dX7_take_162 rfl ?_
              have P := xa _ (by first | exact Or.inl ⟨by omega, rfl⟩ | exact Or.inr ⟨c_119, rfl⟩)
              refine fin1 (k0 e0 _ ⟨A, P.1.1⟩ P.1.2) rfl ?_
              exact P.2
          · exact absurd (lcm_z.mpr t2) c_87
    · exact absurd (by assumption) hF
  have e2 : zcTak Z k n = 2 := cd2_2 c1 (by rw [eFi, Int.toNat_natCast]; omega)
  refine AW.aload_n dX7_take_0 rfl ?_
  refine AW.iload_n dX7_take_1 rfl ?_
  refine AW.callV (as := [vi _]) dX7_take_2 rfl rfl rfl okX7_formAt lkX7_243 W.o rfl rfl rfl rfl rfl rfl rfl (kX7_formN W C (by rw [eC]; exact hg.2) (AW.k1 ?_))
  refine AW.astore dX7_take_5 rfl ?_
  refine AW.aload dX7_take_7 rfl ?_
  refine AW.getRE (j := 0) FW.o dX7_take_9 lkX7_247 rfl rfl inC1 rfl FW.r0 ?_
  refine AW.aload dX7_take_12 rfl ?_
  refine AW.getIE (j := 1) FW.o dX7_take_14 lkX7_251 rfl rfl inC1 rfl (by exact F3) ?_
  refine AW.iload_n dX7_take_17 rfl ?_
  refine AW.callV (as := [vi _, vi _]) dX7_take_18 rfl rfl rfl okX4_fieldNamed lkX7_78 W5.o rfl rfl rfl rfl rfl rfl rfl (kX4_fieldNamedE W5 B5 eF (AW.k1 ?_))
  refine AW.istore dX7_take_21 rfl ?_
  refine AW.iload dX7_take_23 rfl ?_
  refine AW.iconst dX7_take_25 (by decide) ?_
  refine AW.icmp_ne (tgt := 39) dX7_take_26 rfl (fun c_26 => ?_) (fun c_26 => ?_)
  · refine AW.aload dX7_take_39 rfl ?_
    refine AW.getRE (j := 0) FW.o dX7_take_41 lkX7_247 rfl rfl inC1 rfl FW.r0 ?_
    refine AW.iload dX7_take_44 rfl ?_
    refine AW.callS (as := [vi _]) dX7_take_46 rfl rfl rfl okX7_bit lkX7_256 rfl rfl rfl rfl rfl rfl (kX7_bit (by omega) (AW.k1 ?_))
    refine AW.aload dX7_take_49 rfl ?_
    refine AW.getIE (j := 1) FW.o dX7_take_51 lkX7_251 rfl rfl inC1 rfl (by exact F3.trans ev) ?_
    refine AW.callV (as := [vl _, vi _]) dX7_take_54 rfl rfl rfl okX4_tracesOf lkX7_260 W5.o rfl rfl rfl rfl rfl rfl rfl (kX4_tracesOf W5 B5 St (by rw [S1.hd]; omega) (AW.k1 ?_))
    refine AW.lstore dX7_take_57 rfl ?_
    refine AW.aload dX7_take_59 rfl ?_
    refine AW.getIE (j := 2) FW.o dX7_take_61 lkX7_264 rfl rfl inC1 rfl (by exact F4) ?_
    refine AW.if_eq (tgt := 90) dX7_take_64 rfl (fun c_64 => ?_) (fun c_64 => ?_)
    · refine AW.throwW dX7_take_90 dX7_take_93 dX7_take_94 dX7_take_97 dX7_take_100 rfl okTX7_50 strX7_272 rfl rfl rfl rfl rfl ?_
      exact k2 e2
    · refine AW.lload dX7_take_67 rfl ?_
      refine AW.lconst dX7_take_69 ?_
      refine AW.lcmp dX7_take_70 ?_
      refine AW.if_eq (tgt := 90) dX7_take_71 rfl (fun c_71 => ?_) (fun c_71 => ?_)
      · refine AW.throwW dX7_take_90 dX7_take_93 dX7_take_94 dX7_take_97 dX7_take_100 rfl okTX7_50 strX7_272 rfl rfl rfl rfl rfl ?_
        exact k2 e2
      · refine AW.lload dX7_take_74 rfl ?_
        refine AW.aload dX7_take_76 rfl ?_
        refine AW.getRE (j := 0) FW.o dX7_take_78 lkX7_247 rfl rfl inC1 rfl FW.r0 ?_
        refine AW.callV (as := []) dX7_take_81 rfl rfl rfl okX4_allWaiting lkX7_268 W5.o rfl rfl rfl rfl rfl rfl rfl (kX4_allWaiting W5 B5 SQ1.2.2.2.2 (AW.k1 ?_))
        refine AW.land dX7_take_84 ?_
        refine AW.lconst dX7_take_85 ?_
        refine AW.lcmp dX7_take_86 ?_
        refine AW.if_eq (tgt := 101) dX7_take_87 rfl (fun c_87 => ?_) (fun c_87 => ?_)
        · exact absurd ⟨bz_n0.mp c_64, zb.mpr ⟨fun z => c_71 (lcm_z.mpr z), lcm_z.mp c_87⟩⟩ ok
        · refine AW.throwW dX7_take_90 dX7_take_93 dX7_take_94 dX7_take_97 dX7_take_100 rfl okTX7_50 strX7_272 rfl rfl rfl rfl rfl ?_
          exact k2 e2
  · exact absurd (by assumption) hF
end N0

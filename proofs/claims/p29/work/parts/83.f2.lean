/-! ===== the face: rename, toggleNeed, turn ===== -/
section F2
variable {Q : AH → AO → Prop} {h g G : AH} {Z Y : ZT} {c : Nat} {A : Nat → Nat}
theorem kX7_fieldOfHeadE {s : Nat} {n F : Int} (W : SchW h s) (B : SB h s) (e : cfn h s (hI h (4, s, 0) 0) n = F) (hF : ¬ F = -1) (k : Q h (.inl (some (vi F)))) : AC mX7_fieldOfHead fX7_fieldOfHead loX7_fieldOfHead 1 6 h [vr (4, s, 0), vi n] Q := by
  subst e
  exact kX7_fieldOfHead W B (fun z => absurd z hF) (fun _ => k)
theorem SQ.now {s : Nat} {F : Int} (R : SQ h Z s) (w : zwt Z s F = 0) : ∀ i : Nat, (i : Int) < Z 11 s → ¬ Z 12 (48 * s + i) = F := fun i hi e => by
  have := R.2.1
  unfold zwt at w
  rw [Int.toNat_natCast] at w
  exact (zwA_ex _).mpr ⟨i, by omega, e⟩ w
theorem ztur_rng {v f t : Int} (hv : 0 ≤ v ∧ v ≤ zmost f) (hf : 0 ≤ f ∧ f ≤ 2) (ht : 0 ≤ t ∧ t ≤ 2) (hn : ¬ f = t) : 0 ≤ ztur v f t ∧ ztur v f t ≤ zmost t := by
  unfold ztur
  rw [if_neg (by omega)]
  rcases (show f = 0 ∨ f = 1 ∨ f = 2 by omega) with rfl | rfl | rfl <;> rcases (show t = 0 ∨ t = 1 ∨ t = 2 by omega) with rfl | rfl | rfl <;> simp [zmost] at hv hn ⊢
  · have := bz01 (0 < v); omega
  · have h1 : v.tdiv 10 = v / 10 := Int.tdiv_eq_ediv_of_nonneg hv.1
    rw [h1]; omega
  · omega
  · omega
  · rw [wr_id ⟨by omega, by omega⟩]; omega
  · have := bz01 (0 < v); omega
set_option maxHeartbeats 4000000 in
theorem sX7_rename {s n o : Int} (S : SIM h Z c) (B : ZB Z) (k1 : zcRen Z s n o = 1 → Q h (.inr eIx)) (k2 : zcRen Z s n o = 2 → Q h (.inr eIa)) (k3 : zcRen Z s n o = 3 → Q h (.inr eIs))
    (k0 : zcRen Z s n o = 0 → ∀ g, SIM g (zRen Z s n o) c → Fr nMo h g → Q g (.inl (some (vi (Z 1 s.toNat + 1))))) : AC mX7_rename fX7_rename loX7_rename 8 40 h [vr mF, vi s, vi n, vi o] Q := by
  obtain ⟨A, S⟩ := S
  have W := S.1.1
  have C := S.1.2.1
  have eC := S.1.2.2.1.1
  have zz := S.zz
  refine AC.mk (by decide) (Nat.le_of_ble_eq_true rfl) ?_
  by_cases hs : ¬ (0 ≤ s ∧ s < Z 0 0)
  · have e1 : zcRen Z s n o = 1 := cd3_1 (by unfold zatH; rw [if_neg hs])
    refine AW.aload_n dX7_rename_0 rfl ?_
    refine AW.iload_n dX7_rename_1 rfl ?_
    refine AW.callV (as := [vi _]) dX7_rename_2 rfl rfl rfl okX7_schemaAt lkX7_58 W.o rfl rfl rfl rfl rfl rfl rfl (kX7_schemaAt W C (fun _ => k1 e1) (fun z => absurd (eC ▸ z) hs))
    skip
  have hs := Classical.not_not.mp hs
  obtain ⟨s, rfl⟩ := Int.eq_ofNat_of_zero_le hs.1
  obtain ⟨S1, K, SQ1⟩ := S.sc hs.2
  have SQ1 := SQ1 (by omega)
  have b1 := K.b1
  have b2 := K.b2
  have W5 := S1.1
  have B5 := S1.sb K (by rw [SQ1.1]; exact SQ1.2.1)
  have eH := S1.atH K hs.2 (n := n)
  have eH2 := S1.atH K hs.2 (n := o)
  have rF := S1.fr K (v := Z 1 s) (n := n)
  generalize eF : cfn h s (Z 1 s) n = F at eH rF
  by_cases hF : F = -1
  · have e1 : zcRen Z s n o = 1 := cd3_1 (by rw [eH]; exact hF)
    refine AW.aload_n dX7_rename_0 rfl ?_
    refine AW.iload_n dX7_rename_1 rfl ?_
    refine AW.callV (as := [vi _]) dX7_rename_2 rfl rfl rfl okX7_schemaAt lkX7_58 W.o rfl rfl rfl rfl rfl rfl rfl (kX7_schemaN W C (by rw [eC]; exact hs.2) (AW.k1 ?_))
    refine AW.astore dX7_rename_5 rfl ?_
    refine AW.aload dX7_rename_7 rfl ?_
    refine AW.iload_n dX7_rename_9 rfl ?_
    refine AW.callS (as := [vq _, vi _]) dX7_rename_10 rfl rfl rfl okX7_fieldOfHead lkX7_104 rfl rfl rfl rfl rfl rfl (kX7_fieldOfHead W5 B5 (fun _ => k1 e1) (fun z => absurd (by rw [S1.hd, eF]; exact hF) z))
    skip
  obtain ⟨-, rn, rF0, rF1, rF5⟩ := rF.resolve_left hF
  have hF1 : ¬ zatH Z s n = -1 := by rw [eH]; exact hF
  refine AW.aload_n dX7_rename_0 rfl ?_
  refine AW.iload_n dX7_rename_1 rfl ?_
  refine AW.callV (as := [vi _]) dX7_rename_2 rfl rfl rfl okX7_schemaAt lkX7_58 W.o rfl rfl rfl rfl rfl rfl rfl (kX7_schemaN W C (by rw [eC]; exact hs.2) (AW.k1 ?_))
  refine AW.astore dX7_rename_5 rfl ?_
  refine AW.aload dX7_rename_7 rfl ?_
  refine AW.iload_n dX7_rename_9 rfl ?_
  refine AW.callS (as := [vq _, vi _]) dX7_rename_10 rfl rfl rfl okX7_fieldOfHead lkX7_104 rfl rfl rfl rfl rfl rfl (kX7_fieldOfHeadE W5 B5 (by rw [S1.hd]; exact eF) hF (AW.k1 ?_))
  refine AW.istore dX7_rename_13 rfl ?_
  refine AW.iload_n dX7_rename_15 rfl ?_
  refine AW.callS (as := [vi _]) dX7_rename_16 rfl rfl rfl okX7_isName lkX7_62 rfl rfl rfl rfl rfl rfl (kX7_isName  (AW.k1 ?_))
  refine AW.if_ne (tgt := 32) dX7_rename_19 rfl (fun c_19 => ?_) (fun c_19 => ?_)
  · have R := bz_n0.mp c_19
    refine AW.aload dX7_rename_32 rfl ?_
    refine AW.aload dX7_rename_34 rfl ?_
    refine AW.getIE (j := 0) W5.o dX7_rename_36 lkX7_75 rfl rfl inC5 rfl (by exact S1.hd) ?_
    refine AW.iload_n dX7_rename_39 rfl ?_
    refine AW.callV (as := [vi _, vi _]) dX7_rename_40 rfl rfl rfl okX4_fieldNamed lkX7_78 W5.o rfl rfl rfl rfl rfl rfl rfl (kX4_fieldNamed W5 B5 (AW.k1 ?_))
    refine AW.iconst dX7_rename_43 (by decide) ?_
    refine AW.icmp_ne (tgt := 55) dX7_rename_44 rfl (fun c_44 => ?_) (fun c_44 => ?_)
    · refine AW.throwS dX7_rename_55 dX7_rename_58 dX7_rename_59 dX7_rename_61 dX7_rename_64 rfl okTX7_50 strX7_110 rfl rfl rfl rfl rfl ?_
      exact k3 (cd3_3 hF1 (fun y => y R) (by rw [eH2]; first | exact Or.inl c_44 | exact Or.inr (by have := bz_n0.mp c_52; rw [S1.hd] at this; exact this)))
    · refine AW.aload dX7_rename_47 rfl ?_
      refine AW.callV (as := []) dX7_rename_49 rfl rfl rfl okX4_isFull lkX7_82 W5.o rfl rfl rfl rfl rfl rfl rfl (kX4_isFull W5 B5 (AW.k1 ?_))
      refine AW.if_eq (tgt := 65) dX7_rename_52 rfl (fun c_52 => ?_) (fun c_52 => ?_)
      · have x23 : ¬ Z 1 s = 23 := fun y => bz_0.mp c_52 (by rw [S1.hd]; exact y)
        obtain ⟨d, hd⟩ := Int.eq_ofNat_of_zero_le (show 0 ≤ Z 1 s + 1 by omega)
        have hd2 : d < 24 := by omega
        have hdn : (Z 1 s).toNat = d - 1 := by omega
        rw [hdn] at rF5
        have pF : ¬ Z 5 (48 * (24 * s + (d - 1)) + F.toNat) = -1 := by omega
        obtain ⟨n5, n6, n7⟩ := S.n5 (s := s) (d := d) (by omega) (by omega) hd2
        have CG1 := CG.base (w := 1) (a := F) (b := -1) (c := F) (e := -1) (fc := 0) W5 (by rw [S1.hd]; omega) (by omega : 1 ≤ d)
        have CG2 := CG1.pla (f := F) (n := o) (nd := Z 6 (48 * (24 * s + (d - 1)) + F.toNat)) R
        have cN : hI h (4, s, 100 + (d - 1)) o.toNat = -1 := by (have x := c_44; unfold cfn at x; rw [S1.hd, if_pos ⟨by omega, R⟩, hdn] at x; exact x)
        refine AW.aload dX7_rename_65 rfl ?_
        refine AW.aload dX7_rename_67 rfl ?_
        refine AW.getIE (j := 0) W5.o dX7_rename_69 lkX7_75 rfl rfl inC5 rfl (by exact S1.hd) ?_
        refine AW.iload dX7_rename_72 rfl ?_
        refine AW.callV (as := [vi _, vi _]) dX7_rename_74 rfl rfl rfl okX4_isNeeded lkX7_112 W5.o rfl rfl rfl rfl rfl rfl rfl (kX4_isNeeded W5 B5 (AW.k1 ?_))
        refine AW.top (y := Z 6 (48 * (24 * s + (d - 1)) + F.toNat)) (by rw [show Z 1 s = ((d - 1 : Nat) : Int) by omega]; exact S1.ndq K B.1.2.1 (by omega) ⟨rF0, rF1⟩ pF) ?_
        refine AW.istore dX7_rename_77 rfl ?_
        refine AW.aload dX7_rename_79 rfl ?_
        refine AW.new (kc := 7) (5, 24 * s + d, 0) n5 dX7_rename_81 rfl inC7 lkX7_91 insX6 iniX6 rfl rfl ?_
        refine AW.dup dX7_rename_84 rfl ?_
        refine AW.iconst dX7_rename_85 (by decide) ?_
        refine AW.iload dX7_rename_86 rfl ?_
        refine AW.iconst dX7_rename_88 (by decide) ?_
        refine AW.iload dX7_rename_89 rfl ?_
        refine AW.iconst dX7_rename_91 (by decide) ?_
        refine AW.iconst dX7_rename_92 (by decide) ?_
        refine AW.callI (as := [vi _, vi _, vi _, vi _, vi _, vi _]) dX7_rename_93 rfl rfl rfl okX6_init lkX7_93 rfl rfl rfl rfl rfl (kX6_init (p := 24 * s + d) hT_new (hT_old (by intro e; simp at e) n6) (hT_old (by intro e; simp at e) n7) (AW.k0 ?_))
        refine AW.callV (as := [vq _]) dX7_rename_96 rfl rfl rfl okX4_extend lkX7_96 (cns_S W5).o rfl rfl rfl rfl rfl rfl rfl (kX4_extend (h := cns h (24 * s + d) 1 F (-1) F (-1) 0) (cns_S W5) (cns_B B5) cns_P ⟨by rw [cns_6.1]; omega, by rw [cns_6.2]; omega, by rw [cns_7.1]; omega, by rw [cns_7.2]; omega⟩ (by rw [cns_I rfl rfl rfl, S1.hd]; omega) (AW.k0 ?_))
        refine AW.aload dX7_rename_99 rfl ?_
        refine AW.iload dX7_rename_101 rfl ?_
        refine AW.iload_n dX7_rename_103 rfl ?_
        refine AW.iload dX7_rename_104 rfl ?_
        refine AW.callV (as := [vi _, vi _, vi _]) dX7_rename_106 rfl rfl rfl okX4_place lkX7_100 CG1.2.2.2.2.2.2.1.o rfl rfl rfl rfl rfl rfl rfl (kX4_place (h := cE h s d 1 F (-1) F (-1) 0) CG1.2.2.2.2.2.2.1 (CG1.sb B5 (by omega)) R ⟨by omega, by rw [CG1.2.1 2 (by decide), S1.fc]; omega⟩ (AW.k0 ?_))
        refine AW.aload dX7_rename_109 rfl ?_
        refine AW.pcs (pc2 := 111) rfl ?_
        refine AW.getIE (j := 0) CG2.2.2.2.2.2.2.1.o dX7_rename_111 lkX7_75 rfl rfl inC5 rfl (by exact CG2.1) ?_
        refine AW.top (y := Z 1 s + 1) (by omega) ?_
        refine AW.iret dX7_rename_114 rfl ?_
        have e0 : zcRen Z s n o = 0 := cd3_z hF1 (fun y => y R) (by rw [eH2]; exact fun w => w.elim (fun q => q c_44) x23)
        have P := gen0 (w := 1) (F := F) (n := o) (nd := Z 6 (48 * (24 * s + (d - 1)) + F.toNat)) S hs.2 hd.symm hd2 R (Or.inl rfl) (vRen (n := n) (o := o) (by omega) K hd hd2 (by omega) eH ⟨rF0, rF1⟩ pF) (fun f => rfl) (fun f _ => by split; rw [show f = F.toNat by omega]; rfl) ⟨rF0, rF1⟩ (Or.inl cN) pF
        exact k0 e0 _ ⟨A, P.1⟩ P.2
      · refine AW.throwS dX7_rename_55 dX7_rename_58 dX7_rename_59 dX7_rename_61 dX7_rename_64 rfl okTX7_50 strX7_110 rfl rfl rfl rfl rfl ?_
        exact k3 (cd3_3 hF1 (fun y => y R) (by rw [eH2]; first | exact Or.inl c_44 | exact Or.inr (by have := bz_n0.mp c_52; rw [S1.hd] at this; exact this)))
  · refine AW.throwS dX7_rename_22 dX7_rename_25 dX7_rename_26 dX7_rename_28 dX7_rename_31 rfl okTX7_70 strX7_108 rfl rfl rfl rfl rfl ?_
    exact k2 (cd3_2 hF1 (bz_0.mp c_19))
set_option maxHeartbeats 4000000 in
theorem sX7_toggleNeed {s n : Int} (S : SIM h Z c) (B : ZB Z) (k1 : zcTog Z s n = 1 → Q h (.inr eIx)) (k2 : zcTog Z s n = 2 → Q h (.inr eIs))
    (k0 : zcTog Z s n = 0 → ∀ g, SIM g (zTog Z s n) c → Fr nMo h g → Q g (.inl (some (vi (bz (Z 6 (48 * (24 * s + Z 1 s.toNat) + zatH Z s n).toNat = 0)))))) : AC mX7_toggleNeed fX7_toggleNeed loX7_toggleNeed 8 40 h [vr mF, vi s, vi n] Q := by
  obtain ⟨A, S⟩ := S
  have W := S.1.1
  have C := S.1.2.1
  have eC := S.1.2.2.1.1
  have zz := S.zz
  refine AC.mk (by decide) (Nat.le_of_ble_eq_true rfl) ?_
  by_cases hs : ¬ (0 ≤ s ∧ s < Z 0 0)
  · have e1 : zcTog Z s n = 1 := cd2_1 (by unfold zatH; rw [if_neg hs])
    refine AW.aload_n dX7_toggleNeed_0 rfl ?_
    refine AW.iload_n dX7_toggleNeed_1 rfl ?_
    refine AW.callV (as := [vi _]) dX7_toggleNeed_2 rfl rfl rfl okX7_schemaAt lkX7_58 W.o rfl rfl rfl rfl rfl rfl rfl (kX7_schemaAt W C (fun _ => k1 e1) (fun z => absurd (eC ▸ z) hs))
    skip
  have hs := Classical.not_not.mp hs
  obtain ⟨s, rfl⟩ := Int.eq_ofNat_of_zero_le hs.1
  obtain ⟨S1, K, SQ1⟩ := S.sc hs.2
  have SQ1 := SQ1 (by omega)
  have b1 := K.b1
  have b2 := K.b2
  have W5 := S1.1
  have B5 := S1.sb K (by rw [SQ1.1]; exact SQ1.2.1)
  have eH := S1.atH K hs.2 (n := n)
  have rF := S1.fr K (v := Z 1 s) (n := n)
  generalize eF : cfn h s (Z 1 s) n = F at eH rF
  by_cases hF : F = -1
  · have e1 : zcTog Z s n = 1 := cd2_1 (by rw [eH]; exact hF)
    refine AW.aload_n dX7_toggleNeed_0 rfl ?_
    refine AW.iload_n dX7_toggleNeed_1 rfl ?_
    refine AW.callV (as := [vi _]) dX7_toggleNeed_2 rfl rfl rfl okX7_schemaAt lkX7_58 W.o rfl rfl rfl rfl rfl rfl rfl (kX7_schemaN W C (by rw [eC]; exact hs.2) (AW.k1 ?_))
    refine AW.astore_n dX7_toggleNeed_5 rfl ?_
    refine AW.aload_n dX7_toggleNeed_6 rfl ?_
    refine AW.iload_n dX7_toggleNeed_7 rfl ?_
    refine AW.callS (as := [vq _, vi _]) dX7_toggleNeed_8 rfl rfl rfl okX7_fieldOfHead lkX7_104 rfl rfl rfl rfl rfl rfl (kX7_fieldOfHead W5 B5 (fun _ => k1 e1) (fun z => absurd (by rw [S1.hd, eF]; exact hF) z))
    skip
  obtain ⟨-, rn, rF0, rF1, rF5⟩ := rF.resolve_left hF
  have hF1 : ¬ zatH Z s n = -1 := by rw [eH]; exact hF
  refine AW.aload_n dX7_toggleNeed_0 rfl ?_
  refine AW.iload_n dX7_toggleNeed_1 rfl ?_
  refine AW.callV (as := [vi _]) dX7_toggleNeed_2 rfl rfl rfl okX7_schemaAt lkX7_58 W.o rfl rfl rfl rfl rfl rfl rfl (kX7_schemaN W C (by rw [eC]; exact hs.2) (AW.k1 ?_))
  refine AW.astore_n dX7_toggleNeed_5 rfl ?_
  refine AW.aload_n dX7_toggleNeed_6 rfl ?_
  refine AW.iload_n dX7_toggleNeed_7 rfl ?_
  refine AW.callS (as := [vq _, vi _]) dX7_toggleNeed_8 rfl rfl rfl okX7_fieldOfHead lkX7_104 rfl rfl rfl rfl rfl rfl (kX7_fieldOfHeadE W5 B5 (by rw [S1.hd]; exact eF) hF (AW.k1 ?_))
  refine AW.istore dX7_toggleNeed_11 rfl ?_
  refine AW.aload_n dX7_toggleNeed_13 rfl ?_
  refine AW.callV (as := []) dX7_toggleNeed_14 rfl rfl rfl okX4_isFull lkX7_82 W5.o rfl rfl rfl rfl rfl rfl rfl (kX4_isFull W5 B5 (AW.k1 ?_))
  refine AW.if_eq (tgt := 30) dX7_toggleNeed_17 rfl (fun c_17 => ?_) (fun c_17 => ?_)
  · have x23 : ¬ Z 1 s = 23 := fun y => bz_0.mp c_17 (by rw [S1.hd]; exact y)
    obtain ⟨d, hd⟩ := Int.eq_ofNat_of_zero_le (show 0 ≤ Z 1 s + 1 by omega)
    have hd2 : d < 24 := by omega
    have hdn : (Z 1 s).toNat = d - 1 := by omega
    rw [hdn] at rF5
    have pF : ¬ Z 5 (48 * (24 * s + (d - 1)) + F.toNat) = -1 := by omega
    obtain ⟨n5, n6, n7⟩ := S.n5 (s := s) (d := d) (by omega) (by omega) hd2
    have CG1 := CG.base (w := 6) (a := F) (b := -1) (c := F) (e := -1) (fc := 0) W5 (by rw [S1.hd]; omega) (by omega : 1 ≤ d)
    have cN : hI h (4, s, 100 + (d - 1)) n.toNat = F := by (have x := eF; unfold cfn at x; rw [S1.hd, if_pos ⟨by omega, rn⟩, hdn] at x; exact x)
    refine AW.aload_n dX7_toggleNeed_30 rfl ?_
    refine AW.aload_n dX7_toggleNeed_31 rfl ?_
    refine AW.getIE (j := 0) W5.o dX7_toggleNeed_32 lkX7_75 rfl rfl inC5 rfl (by exact S1.hd) ?_
    refine AW.iload dX7_toggleNeed_35 rfl ?_
    refine AW.callV (as := [vi _, vi _]) dX7_toggleNeed_37 rfl rfl rfl okX4_isNeeded lkX7_112 W5.o rfl rfl rfl rfl rfl rfl rfl (kX4_isNeeded W5 B5 (AW.k1 ?_))
    refine AW.top (y := Z 6 (48 * (24 * s + (d - 1)) + F.toNat)) (by rw [show Z 1 s = ((d - 1 : Nat) : Int) by omega]; exact S1.ndq K B.1.2.1 (by omega) ⟨rF0, rF1⟩ pF) ?_
    refine' AW.if_neJ 48 (tgt := 47) dX7_toggleNeed_40 rfl _ _ _
    rotate_left 2
    · intro c_40 k_40
      refine AW.iconst dX7_toggleNeed_47 (by decide) ?_
      exact k_40
    · intro c_40 k_40
      refine AW.iconst dX7_toggleNeed_43 (by decide) ?_
      refine AW.goto (tgt := 48) dX7_toggleNeed_44 rfl ?_
      exact k_40
    refine AW.top (y := bz (Z 6 (48 * (24 * s + (d - 1)) + F.toNat) = 0)) (by unfold bz; (repeat' split) <;> first | rfl | omega) ?_
    refine AW.istore dX7_toggleNeed_48 rfl ?_
    refine AW.aload_n dX7_toggleNeed_50 rfl ?_
    refine AW.new (kc := 7) (5, 24 * s + d, 0) n5 dX7_toggleNeed_51 rfl inC7 lkX7_91 insX6 iniX6 rfl rfl ?_
    refine AW.dup dX7_toggleNeed_54 rfl ?_
    refine AW.bipush dX7_toggleNeed_55 bp_6 (by decide) ?_
    refine AW.iload dX7_toggleNeed_57 rfl ?_
    refine AW.iconst dX7_toggleNeed_59 (by decide) ?_
    refine AW.iload dX7_toggleNeed_60 rfl ?_
    refine AW.iconst dX7_toggleNeed_62 (by decide) ?_
    refine AW.iconst dX7_toggleNeed_63 (by decide) ?_
    refine AW.callI (as := [vi _, vi _, vi _, vi _, vi _, vi _]) dX7_toggleNeed_64 rfl rfl rfl okX6_init lkX7_93 rfl rfl rfl rfl rfl (kX6_init (p := 24 * s + d) hT_new (hT_old (by intro e; simp at e) n6) (hT_old (by intro e; simp at e) n7) (AW.k0 ?_))
    refine AW.callV (as := [vq _]) dX7_toggleNeed_67 rfl rfl rfl okX4_extend lkX7_96 (cns_S W5).o rfl rfl rfl rfl rfl rfl rfl (kX4_extend (h := cns h (24 * s + d) 6 F (-1) F (-1) 0) (cns_S W5) (cns_B B5) cns_P ⟨by rw [cns_6.1]; omega, by rw [cns_6.2]; omega, by rw [cns_7.1]; omega, by rw [cns_7.2]; omega⟩ (by rw [cns_I rfl rfl rfl, S1.hd]; omega) (AW.k0 ?_))
    refine AW.aload_n dX7_toggleNeed_70 rfl ?_
    refine AW.iload dX7_toggleNeed_71 rfl ?_
    refine AW.iload_n dX7_toggleNeed_73 rfl ?_
    refine AW.iload dX7_toggleNeed_74 rfl ?_
    refine AW.callV (as := [vi _, vi _, vi _]) dX7_toggleNeed_76 rfl rfl rfl okX4_place lkX7_100 CG1.2.2.2.2.2.2.1.o rfl rfl rfl rfl rfl rfl rfl (kX4_place (h := cE h s d 6 F (-1) F (-1) 0) CG1.2.2.2.2.2.2.1 (CG1.sb B5 (by omega)) rn ⟨by omega, by rw [CG1.2.1 2 (by decide), S1.fc]; omega⟩ (AW.k0 ?_))
    refine AW.iload dX7_toggleNeed_79 rfl ?_
    refine AW.zret dX7_toggleNeed_81 rfl ?_ ?_
    · exact bz01 _
    have e0 : zcTog Z s n = 0 := cd2_z hF1 x23
    have P := gen0 (w := 6) (F := F) (n := n) (nd := bz (Z 6 (48 * (24 * s + (d - 1)) + F.toNat) = 0)) S hs.2 hd.symm hd2 rn (Or.inr rfl) (vTog (n := n) (by omega) K hd hd2 (by omega) eH ⟨rF0, rF1⟩) (fun f => by split; rw [show f = F.toNat by omega]; exact rF5; rfl) (fun f _ => rfl) ⟨rF0, rF1⟩ (Or.inr cN) pF
    refine fin1 (k0 e0 _ ⟨A, P.1⟩ P.2) rfl ?_
    rw [eH, Int.toNat_natCast, show (48 * (24 * (s : Int) + Z 1 s) + F).toNat = 48 * (24 * s + (d - 1)) + F.toNat by omega]
  · refine AW.throwS dX7_toggleNeed_20 dX7_toggleNeed_23 dX7_toggleNeed_24 dX7_toggleNeed_26 dX7_toggleNeed_29 rfl okTX7_50 strX7_161 rfl rfl rfl rfl rfl ?_
    exact k2 (cd2_2 hF1 (by have := bz_n0.mp c_17; rw [S1.hd] at this; exact this))
set_option maxHeartbeats 4000000 in
theorem sX7_turn {s n hw : Int} (S : SIM h Z c) (B : ZB Z) (k1 : zcTur Z s n hw = 1 → Q h (.inr eIx)) (k2 : zcTur Z s n hw = 2 → Q h (.inr eIa)) (k3 : zcTur Z s n hw = 3 → Q h (.inr eIs))
    (k0 : zcTur Z s n hw = 0 → ∀ g, SIM g (zTur Z s n hw) c → Fr nMo h g → Q g (.inl (some (vi (Z 2 s.toNat))))) : AC mX7_turn fX7_turn loX7_turn 8 40 h [vr mF, vi s, vi n, vi hw] Q := by
  obtain ⟨A, S⟩ := S
  have W := S.1.1
  have C := S.1.2.1
  have eC := S.1.2.2.1.1
  have zz := S.zz
  refine AC.mk (by decide) (Nat.le_of_ble_eq_true rfl) ?_
  by_cases hs : ¬ (0 ≤ s ∧ s < Z 0 0)
  · have e1 : zcTur Z s n hw = 1 := cd3_1 (by unfold zatH; rw [if_neg hs])
    refine AW.aload_n dX7_turn_0 rfl ?_
    refine AW.iload_n dX7_turn_1 rfl ?_
    refine AW.callV (as := [vi _]) dX7_turn_2 rfl rfl rfl okX7_schemaAt lkX7_58 W.o rfl rfl rfl rfl rfl rfl rfl (kX7_schemaAt W C (fun _ => k1 e1) (fun z => absurd (eC ▸ z) hs))
    skip
  have hs := Classical.not_not.mp hs
  obtain ⟨s, rfl⟩ := Int.eq_ofNat_of_zero_le hs.1
  obtain ⟨S1, K, SQ1⟩ := S.sc hs.2
  have SQ1 := SQ1 (by omega)
  have b1 := K.b1
  have b2 := K.b2
  have W5 := S1.1
  have B5 := S1.sb K (by rw [SQ1.1]; exact SQ1.2.1)
  have bI := B.1.2.2.2.2.2 s (by omega)
  have eH := S1.atH K hs.2 (n := n)
  have rF := S1.fr K (v := Z 1 s) (n := n)
  generalize eF : cfn h s (Z 1 s) n = F at eH rF
  by_cases hF : F = -1
  · have e1 : zcTur Z s n hw = 1 := cd3_1 (by rw [eH]; exact hF)
    refine AW.aload_n dX7_turn_0 rfl ?_
    refine AW.iload_n dX7_turn_1 rfl ?_
    refine AW.callV (as := [vi _]) dX7_turn_2 rfl rfl rfl okX7_schemaAt lkX7_58 W.o rfl rfl rfl rfl rfl rfl rfl (kX7_schemaN W C (by rw [eC]; exact hs.2) (AW.k1 ?_))
    refine AW.astore dX7_turn_5 rfl ?_
    refine AW.aload dX7_turn_7 rfl ?_
    refine AW.iload_n dX7_turn_9 rfl ?_
    refine AW.callS (as := [vq _, vi _]) dX7_turn_10 rfl rfl rfl okX7_fieldOfHead lkX7_104 rfl rfl rfl rfl rfl rfl (kX7_fieldOfHead W5 B5 (fun _ => k1 e1) (fun z => absurd (by rw [S1.hd, eF]; exact hF) z))
    skip
  obtain ⟨-, rn, rF0, rF1, rF5⟩ := rF.resolve_left hF
  have hF1 : ¬ zatH Z s n = -1 := by rw [eH]; exact hF
  have ekd : ckd h s F = Z 3 (48 * s + F.toNat) := by rw [S1.eck ⟨by omega, rF1⟩]; unfold zkof; rw [if_neg hF, show (48 * (s : Int) + F).toNat = 48 * s + F.toNat by omega]
  have e48 : (48 * (s : Int) + F).toNat = 48 * s + F.toNat := by omega
  have kF := (K.2.2.2.1 F.toNat (by omega))
  refine AW.aload_n dX7_turn_0 rfl ?_
  refine AW.iload_n dX7_turn_1 rfl ?_
  refine AW.callV (as := [vi _]) dX7_turn_2 rfl rfl rfl okX7_schemaAt lkX7_58 W.o rfl rfl rfl rfl rfl rfl rfl (kX7_schemaN W C (by rw [eC]; exact hs.2) (AW.k1 ?_))
  refine AW.astore dX7_turn_5 rfl ?_
  refine AW.aload dX7_turn_7 rfl ?_
  refine AW.iload_n dX7_turn_9 rfl ?_
  refine AW.callS (as := [vq _, vi _]) dX7_turn_10 rfl rfl rfl okX7_fieldOfHead lkX7_104 rfl rfl rfl rfl rfl rfl (kX7_fieldOfHeadE W5 B5 (by rw [S1.hd]; exact eF) hF (AW.k1 ?_))
  refine AW.istore dX7_turn_13 rfl ?_
  refine AW.iload_n dX7_turn_15 rfl ?_
  refine AW.callS (as := [vi _]) dX7_turn_16 rfl rfl rfl okX7_isKind lkX7_115 rfl rfl rfl rfl rfl rfl (kX7_isKind  (AW.k1 ?_))
  refine AW.if_ne (tgt := 32) dX7_turn_19 rfl (fun c_19 => ?_) (fun c_19 => ?_)
  · have R := bz_n0.mp c_19
    refine AW.aload dX7_turn_32 rfl ?_
    refine AW.iload dX7_turn_34 rfl ?_
    refine AW.callV (as := [vi _]) dX7_turn_36 rfl rfl rfl okX4_kindOf lkX7_120 W5.o rfl rfl rfl rfl rfl rfl rfl (kX4_kindOf W5 B5 (AW.k1 ?_))
    refine AW.top (y := Z 3 (48 * s + F.toNat)) ekd ?_
    refine AW.istore dX7_turn_39 rfl ?_
    refine AW.iload dX7_turn_41 rfl ?_
    refine AW.iload_n dX7_turn_43 rfl ?_
    refine AW.icmp_eq (tgt := 65) dX7_turn_44 rfl (fun c_44 => ?_) (fun c_44 => ?_)
    · refine AW.throwS dX7_turn_65 dX7_turn_68 dX7_turn_69 dX7_turn_71 dX7_turn_74 rfl okTX7_50 strX7_127 rfl rfl rfl rfl rfl ?_
      exact k3 (cd3_3 hF1 (fun y => y R) (by rw [eH, e48]; first | exact Or.inl c_44 | exact Or.inr (Or.inl ((SQ1.wt (by omega)).mp (bz_n0.mp c_54))) | exact Or.inr (Or.inr (by have := bz_n0.mp c_62; rw [S1.hd] at this; exact this))))
    · refine AW.aload dX7_turn_47 rfl ?_
      refine AW.iload dX7_turn_49 rfl ?_
      refine AW.callV (as := [vi _]) dX7_turn_51 rfl rfl rfl okX4_isWaiting lkX7_124 W5.o rfl rfl rfl rfl rfl rfl rfl (kX4_isWaiting W5 B5 SQ1.2.2.2.2 (by omega) (AW.k1 ?_))
      refine AW.if_ne (tgt := 65) dX7_turn_54 rfl (fun c_54 => ?_) (fun c_54 => ?_)
      · refine AW.throwS dX7_turn_65 dX7_turn_68 dX7_turn_69 dX7_turn_71 dX7_turn_74 rfl okTX7_50 strX7_127 rfl rfl rfl rfl rfl ?_
        exact k3 (cd3_3 hF1 (fun y => y R) (by rw [eH, e48]; first | exact Or.inl c_44 | exact Or.inr (Or.inl ((SQ1.wt (by omega)).mp (bz_n0.mp c_54))) | exact Or.inr (Or.inr (by have := bz_n0.mp c_62; rw [S1.hd] at this; exact this))))
      · refine AW.aload dX7_turn_57 rfl ?_
        refine AW.callV (as := []) dX7_turn_59 rfl rfl rfl okX4_isFull lkX7_82 W5.o rfl rfl rfl rfl rfl rfl rfl (kX4_isFull W5 B5 (AW.k1 ?_))
        refine AW.if_eq (tgt := 75) dX7_turn_62 rfl (fun c_62 => ?_) (fun c_62 => ?_)
        · have x23 : ¬ Z 1 s = 23 := fun y => bz_0.mp c_62 (by rw [S1.hd]; exact y)
          have w0 : zwt Z s F = 0 := Classical.not_not.mp (fun y => bz_0.mp c_54 ((SQ1.wt (by omega)).mpr y))
          obtain ⟨d, hd⟩ := Int.eq_ofNat_of_zero_le (show 0 ≤ Z 1 s + 1 by omega)
          have hd2 : d < 24 := by omega
          have hdn : (Z 1 s).toNat = d - 1 := by omega
          rw [hdn] at rF5
          have pF : ¬ Z 5 (48 * (24 * s + (d - 1)) + F.toNat) = -1 := by omega
          obtain ⟨n5, n6, n7⟩ := S.n5 (s := s) (d := d) (by omega) (by omega) hd2
          have GS1 := (GS.rf W5).mf (kd := hw) (v := ztur (Z 4 (48 * s + F.toNat)) (Z 3 (48 * s + F.toNat)) hw) (Int.le_refl _) (by rw [S1.fc]; omega)
          have B6 := GS1.sb B5 (by rw [S1.fc]; omega)
          have CG1 := CG.base (w := 2) (a := F) (b := -1) (c := Z 2 s) (e := -1) (fc := 0) GS1.2.2.2.2.1 (by rw [GS1.1, S1.hd]; omega) (by omega : 1 ≤ d)
          have cN : hI h (4, s, 100 + (d - 1)) n.toNat = F := by (have x := eF; unfold cfn at x; rw [S1.hd, if_pos ⟨by omega, rn⟩, hdn] at x; exact x)
          refine AW.aload dX7_turn_75 rfl ?_
          refine AW.aload dX7_turn_77 rfl ?_
          refine AW.getIE (j := 0) W5.o dX7_turn_79 lkX7_75 rfl rfl inC5 rfl (by exact S1.hd) ?_
          refine AW.iload dX7_turn_82 rfl ?_
          refine AW.callV (as := [vi _, vi _]) dX7_turn_84 rfl rfl rfl okX4_isNeeded lkX7_112 W5.o rfl rfl rfl rfl rfl rfl rfl (kX4_isNeeded W5 B5 (AW.k1 ?_))
          refine AW.top (y := Z 6 (48 * (24 * s + (d - 1)) + F.toNat)) (by rw [show Z 1 s = ((d - 1 : Nat) : Int) by omega]; exact S1.ndq K B.1.2.1 (by omega) ⟨rF0, rF1⟩ pF) ?_
          refine AW.istore dX7_turn_87 rfl ?_
          refine AW.aload dX7_turn_89 rfl ?_
          refine AW.iload_n dX7_turn_91 rfl ?_
          refine AW.aload dX7_turn_92 rfl ?_
          refine AW.iload dX7_turn_94 rfl ?_
          refine AW.callV (as := [vi _]) dX7_turn_96 rfl rfl rfl okX4_defaultOf lkX7_129 W5.o rfl rfl rfl rfl rfl rfl rfl (kX4_defaultOf W5 B5 (AW.k1 ?_))
          refine AW.top (y := Z 4 (48 * s + F.toNat)) (S1.ecd ⟨rF0, rF1⟩) ?_
          refine AW.iload dX7_turn_99 rfl ?_
          refine AW.iload_n dX7_turn_101 rfl ?_
          refine AW.callS (as := [vi _, vi _, vi _]) dX7_turn_102 rfl rfl rfl okX7_turned lkX7_132 rfl rfl rfl rfl rfl rfl (kX7_turned  (AW.k1 ?_))
          refine AW.top (y := ztur (Z 4 (48 * s + F.toNat)) (Z 3 (48 * s + F.toNat)) hw) (ctu_eq kF.2 R c_44) ?_
          refine AW.callV (as := [vi _, vi _]) dX7_turn_105 rfl rfl rfl okX4_makeField lkX7_88 W5.o rfl rfl rfl rfl rfl rfl rfl (kX4_makeField W5 B5 (by rw [S1.fc]; omega) (AW.k1 ?_))
          refine AW.top (y := Z 2 s) S1.fc ?_
          refine AW.istore dX7_turn_108 rfl ?_
          refine AW.aload dX7_turn_110 rfl ?_
          refine AW.new (kc := 7) (5, 24 * s + d, 0) n5 dX7_turn_112 rfl inC7 lkX7_91 insX6 iniX6 rfl rfl ?_
          refine AW.dup dX7_turn_115 rfl ?_
          refine AW.iconst dX7_turn_116 (by decide) ?_
          refine AW.iload dX7_turn_117 rfl ?_
          refine AW.iconst dX7_turn_119 (by decide) ?_
          refine AW.iload dX7_turn_120 rfl ?_
          refine AW.pcs (pc2 := 122) rfl ?_
          refine AW.iconst dX7_turn_122 (by decide) ?_
          refine AW.iconst dX7_turn_123 (by decide) ?_
          refine AW.callI (as := [vi _, vi _, vi _, vi _, vi _, vi _]) dX7_turn_124 rfl rfl rfl okX6_init lkX7_93 rfl rfl rfl rfl rfl (kX6_init (p := 24 * s + d) hT_new (hT_old (by intro e; simp at e) n6) (hT_old (by intro e; simp at e) n7) (AW.k0 ?_))
          refine AW.callV (as := [vq _]) dX7_turn_127 rfl rfl rfl okX4_extend lkX7_96 (cns_S GS1.2.2.2.2.1).o rfl rfl rfl rfl rfl rfl rfl (kX4_extend (h := cns (cmf h s hw (ztur (Z 4 (48 * s + F.toNat)) (Z 3 (48 * s + F.toNat)) hw)) (24 * s + d) 2 F (-1) (Z 2 s) (-1) 0) (cns_S GS1.2.2.2.2.1) (cns_B B6) cns_P ⟨by rw [cns_6.1]; omega, by rw [cns_6.2]; omega, by rw [cns_7.1]; omega, by rw [cns_7.2]; omega⟩ (by rw [cns_I rfl rfl rfl, GS1.1, S1.hd]; omega) (AW.k0 ?_))
          refine AW.aload dX7_turn_130 rfl ?_
          refine AW.iload dX7_turn_132 rfl ?_
          refine AW.iload_n dX7_turn_134 rfl ?_
          refine AW.iload dX7_turn_135 rfl ?_
          refine AW.callV (as := [vi _, vi _, vi _]) dX7_turn_137 rfl rfl rfl okX4_place lkX7_100 CG1.2.2.2.2.2.2.1.o rfl rfl rfl rfl rfl rfl rfl (kX4_place (h := cE (cmf h s hw (ztur (Z 4 (48 * s + F.toNat)) (Z 3 (48 * s + F.toNat)) hw)) s d 2 F (-1) (Z 2 s) (-1) 0) CG1.2.2.2.2.2.2.1 (CG1.sb B6 (by omega)) rn ⟨by omega, by rw [CG1.2.1 2 (by decide), GS1.2.2.1, S1.fc]; omega⟩ (AW.k0 ?_))
          refine AW.iload dX7_turn_140 rfl ?_
          refine AW.iret dX7_turn_142 rfl ?_
          have e0 : zcTur Z s n hw = 0 := cd3_z hF1 (fun y => y R) (by rw [eH, e48]; exact fun w => w.elim (fun q => c_44 q) (fun q => q.elim (fun q => q w0) x23))
          have zb : 0 ≤ ztur (Z 4 (48 * s + F.toNat)) (Z 3 (48 * s + F.toNat)) hw ∧ ztur (Z 4 (48 * s + F.toNat)) (Z 3 (48 * s + F.toNat)) hw ≤ zmost hw := (ztur_rng kF.1 kF.2 R c_44)
          have V3 := vTur_n (n := n) (hw := hw) K hd eH ⟨rF0, rF1⟩
          have V := vTur (n := n) (hw := hw) (by omega) K hd hd2 (by omega) eH ⟨rF0, rF1⟩
          have P := gen1 (M1 := fun f => if (f : Int) = F then -1 else Z 5 (48 * (24 * s + (d - 1)) + f)) S hs.2 hd.symm hd2 (by omega) rn V (fun f => by by_cases z : (f : Int) = F; rw [if_pos z, if_pos (Or.inl z)]; rw [if_neg z, if_neg (by omega)]) V3 (by omega) (by omega) (Or.inr (Or.inl cN)) zb R (Or.inr (Or.inr (Or.inl ⟨rfl, rF0, rfl, by omega, rfl, by dsimp only; rw [V3.1, (V.2.1 F.toNat (by omega) (by omega)).1]; exact c_44⟩))) (fun _ => pF) (fun z => absurd rfl z) (fun y i hi => ⟨SQ1.now w0 i hi, by have := (SQ1.2.2.1 i hi).2.1; omega⟩)
          exact k0 e0 _ ⟨A, P.1⟩ P.2
        · refine AW.throwS dX7_turn_65 dX7_turn_68 dX7_turn_69 dX7_turn_71 dX7_turn_74 rfl okTX7_50 strX7_127 rfl rfl rfl rfl rfl ?_
          exact k3 (cd3_3 hF1 (fun y => y R) (by rw [eH, e48]; first | exact Or.inl c_44 | exact Or.inr (Or.inl ((SQ1.wt (by omega)).mp (bz_n0.mp c_54))) | exact Or.inr (Or.inr (by have := bz_n0.mp c_62; rw [S1.hd] at this; exact this))))
  · refine AW.throwS dX7_turn_22 dX7_turn_25 dX7_turn_26 dX7_turn_28 dX7_turn_31 rfl okTX7_70 strX7_118 rfl rfl rfl rfl rfl ?_
    exact k2 (cd3_2 hF1 (bz_0.mp c_19))
end F2

/-! ===== the face: split, join ===== -/
section F3
variable {Q : AH → AO → Prop} {h g G : AH} {Z Y : ZT} {c : Nat} {A : Nat → Nat}
theorem tdiv_rng {v x : Int} (hv : 0 ≤ v ∧ v ≤ 9999) (hx : 0 < x) : 0 ≤ v.tdiv x ∧ v.tdiv x ≤ 9999 := by
  have h1 := Int.tdiv_nonneg hv.1 (Int.le_of_lt hx)
  have h2 := Int.tdiv_le_self x hv.1
  omega
theorem tmod_rng {v x : Int} (hv : 0 ≤ v ∧ v ≤ 9999) (hx : 0 < x ∧ x ≤ 100) : 0 ≤ v.tmod x ∧ v.tmod x ≤ 9999 := by
  have h1 := Int.tmod_nonneg x hv.1
  have h2 := Int.tmod_lt_of_pos v hx.1
  omega
theorem zjoi_rng {v w x : Int} (hv : 0 ≤ v ∧ v ≤ 9999) (hw : 0 ≤ w ∧ w ≤ 9999) (hx : 2 ≤ x ∧ x ≤ 100) : 0 ≤ zjoi v w x ∧ zjoi v w x ≤ 9999 := by
  have h1 : 0 ≤ x * v := Int.mul_nonneg (by omega) hv.1
  have h2 : x * v ≤ 100 * 9999 := Int.mul_le_mul hx.2 hv.2 hv.1 (by omega)
  unfold zjoi
  rw [if_neg (by omega), wr_id (x := x * v) ⟨by omega, by omega⟩, wr_id ⟨by omega, by omega⟩]
  split <;> omega
set_option maxHeartbeats 4000000 in
theorem sX7_split {s n o1 o2 dv : Int} (S : SIM h Z c) (B : ZB Z) (k1 : zcSpl Z s n o1 o2 dv = 1 → Q h (.inr eIx)) (k2 : zcSpl Z s n o1 o2 dv = 2 → Q h (.inr eIa)) (k3 : zcSpl Z s n o1 o2 dv = 3 → Q h (.inr eIs))
    (k0 : zcSpl Z s n o1 o2 dv = 0 → ∀ g, SIM g (zSpl Z s n o1 o2 dv) c → Fr nMo h g → Q g (.inl (some (vi (Z 2 s.toNat))))) : AC mX7_split fX7_split loX7_split 8 40 h [vr mF, vi s, vi n, vi o1, vi o2, vi dv] Q := by
  obtain ⟨A, S⟩ := S
  have W := S.1.1
  have C := S.1.2.1
  have eC := S.1.2.2.1.1
  have zz := S.zz
  refine AC.mk (by decide) (Nat.le_of_ble_eq_true rfl) ?_
  by_cases hs : ¬ (0 ≤ s ∧ s < Z 0 0)
  · have e1 : zcSpl Z s n o1 o2 dv = 1 := cd3_1 (by unfold zatH; rw [if_neg hs])
    refine AW.aload_n dX7_split_0 rfl ?_
    refine AW.iload_n dX7_split_1 rfl ?_
    refine AW.callV (as := [vi _]) dX7_split_2 rfl rfl rfl okX7_schemaAt lkX7_58 W.o rfl rfl rfl rfl rfl rfl rfl (kX7_schemaAt W C (fun _ => k1 e1) (fun z => absurd (eC ▸ z) hs))
    skip
  have hs := Classical.not_not.mp hs
  obtain ⟨s, rfl⟩ := Int.eq_ofNat_of_zero_le hs.1
  obtain ⟨S1, K, SQ1⟩ := S.sc hs.2
  have SQ1 := SQ1 (by omega)
  have b1 := K.b1
  have b2 := K.b2
  have W5 := S1.1
  have B5 := S1.sb K (by rw [SQ1.1]; exact SQ1.2.1)
  have bI := B.1.2.2.2.2.2 s (by omega)
  have eH := S1.atH K hs.2 (n := n)
  have eH1 := S1.atH K hs.2 (n := o1)
  have eH2 := S1.atH K hs.2 (n := o2)
  have rF := S1.fr K (v := Z 1 s) (n := n)
  generalize eF : cfn h s (Z 1 s) n = F at eH rF
  by_cases hF : F = -1
  · have e1 : zcSpl Z s n o1 o2 dv = 1 := cd3_1 (by rw [eH]; exact hF)
    refine AW.aload_n dX7_split_0 rfl ?_
    refine AW.iload_n dX7_split_1 rfl ?_
    refine AW.callV (as := [vi _]) dX7_split_2 rfl rfl rfl okX7_schemaAt lkX7_58 W.o rfl rfl rfl rfl rfl rfl rfl (kX7_schemaN W C (by rw [eC]; exact hs.2) (AW.k1 ?_))
    refine AW.astore dX7_split_5 rfl ?_
    refine AW.aload dX7_split_7 rfl ?_
    refine AW.iload_n dX7_split_9 rfl ?_
    refine AW.callS (as := [vq _, vi _]) dX7_split_10 rfl rfl rfl okX7_fieldOfHead lkX7_104 rfl rfl rfl rfl rfl rfl (kX7_fieldOfHead W5 B5 (fun _ => k1 e1) (fun z => absurd (by rw [S1.hd, eF]; exact hF) z))
    skip
  obtain ⟨-, rn, rF0, rF1, rF5⟩ := rF.resolve_left hF
  have hF1 : ¬ zatH Z s n = -1 := by rw [eH]; exact hF
  have e48 : (48 * (s : Int) + F).toNat = 48 * s + F.toNat := by omega
  have ekd : ckd h s F = Z 3 (48 * s + F.toNat) := by rw [S1.eck ⟨by omega, rF1⟩]; unfold zkof; rw [if_neg hF, e48]
  have kF := (K.2.2.2.1 F.toNat (by omega))
  have fre : zfre Z s F = bz (Z 3 (48 * s + F.toNat) = 0 ∧ zwt Z s F = 0 ∧ ¬ Z 1 s = 23) := by unfold zfre; rw [e48]; rfl
  refine AW.aload_n dX7_split_0 rfl ?_
  refine AW.iload_n dX7_split_1 rfl ?_
  refine AW.callV (as := [vi _]) dX7_split_2 rfl rfl rfl okX7_schemaAt lkX7_58 W.o rfl rfl rfl rfl rfl rfl rfl (kX7_schemaN W C (by rw [eC]; exact hs.2) (AW.k1 ?_))
  refine AW.astore dX7_split_5 rfl ?_
  refine AW.aload dX7_split_7 rfl ?_
  refine AW.iload_n dX7_split_9 rfl ?_
  refine AW.callS (as := [vq _, vi _]) dX7_split_10 rfl rfl rfl okX7_fieldOfHead lkX7_104 rfl rfl rfl rfl rfl rfl (kX7_fieldOfHeadE W5 B5 (by rw [S1.hd]; exact eF) hF (AW.k1 ?_))
  refine AW.istore dX7_split_13 rfl ?_
  refine AW.iload_n dX7_split_15 rfl ?_
  refine AW.callS (as := [vi _]) dX7_split_16 rfl rfl rfl okX7_isName lkX7_62 rfl rfl rfl rfl rfl rfl (kX7_isName  (AW.k1 ?_))
  refine AW.if_eq (tgt := 44) dX7_split_19 rfl (fun c_19 => ?_) (fun c_19 => ?_)
  · refine AW.throwS dX7_split_44 dX7_split_47 dX7_split_48 dX7_split_50 dX7_split_53 rfl okTX7_70 strX7_139 rfl rfl rfl rfl rfl ?_
    exact k2 (cd3_2 hF1 (fun z => by first | exact absurd z.1 (bz_0.mp c_19) | exact absurd z.2.1 (bz_0.mp c_27) | exact absurd z.2.2.2 (bz_0.mp c_35) | exact absurd c_41 z.2.2.1))
  · refine AW.iload dX7_split_22 rfl ?_
    refine AW.callS (as := [vi _]) dX7_split_24 rfl rfl rfl okX7_isName lkX7_62 rfl rfl rfl rfl rfl rfl (kX7_isName  (AW.k1 ?_))
    refine AW.if_eq (tgt := 44) dX7_split_27 rfl (fun c_27 => ?_) (fun c_27 => ?_)
    · refine AW.throwS dX7_split_44 dX7_split_47 dX7_split_48 dX7_split_50 dX7_split_53 rfl okTX7_70 strX7_139 rfl rfl rfl rfl rfl ?_
      exact k2 (cd3_2 hF1 (fun z => by first | exact absurd z.1 (bz_0.mp c_19) | exact absurd z.2.1 (bz_0.mp c_27) | exact absurd z.2.2.2 (bz_0.mp c_35) | exact absurd c_41 z.2.2.1))
    · refine AW.iload dX7_split_30 rfl ?_
      refine AW.callS (as := [vi _]) dX7_split_32 rfl rfl rfl okX7_isFactor lkX7_136 rfl rfl rfl rfl rfl rfl (kX7_isFactor  (AW.k1 ?_))
      refine AW.if_eq (tgt := 44) dX7_split_35 rfl (fun c_35 => ?_) (fun c_35 => ?_)
      · refine AW.throwS dX7_split_44 dX7_split_47 dX7_split_48 dX7_split_50 dX7_split_53 rfl okTX7_70 strX7_139 rfl rfl rfl rfl rfl ?_
        exact k2 (cd3_2 hF1 (fun z => by first | exact absurd z.1 (bz_0.mp c_19) | exact absurd z.2.1 (bz_0.mp c_27) | exact absurd z.2.2.2 (bz_0.mp c_35) | exact absurd c_41 z.2.2.1))
      · refine AW.iload_n dX7_split_38 rfl ?_
        refine AW.iload dX7_split_39 rfl ?_
        refine AW.icmp_ne (tgt := 54) dX7_split_41 rfl (fun c_41 => ?_) (fun c_41 => ?_)
        · have R : ((0 ≤ o1 ∧ o1 ≤ 25) ∧ (0 ≤ o2 ∧ o2 ≤ 25) ∧ ¬ o1 = o2 ∧ 2 ≤ dv ∧ dv ≤ 100) := ⟨bz_n0.mp c_19, bz_n0.mp c_27, c_41, bz_n0.mp c_35⟩
          refine AW.aload dX7_split_54 rfl ?_
          refine AW.iload_n dX7_split_56 rfl ?_
          refine AW.iload dX7_split_57 rfl ?_
          refine AW.iload dX7_split_59 rfl ?_
          refine AW.callV (as := [vi _, vi _, vi _]) dX7_split_61 rfl rfl rfl okX4_isTakenByOther lkX7_141 W5.o rfl rfl rfl rfl rfl rfl rfl (kX4_isTakenByOther W5 B5 (AW.k1 ?_))
          refine' AW.if_neJ 86 (tgt := 81) dX7_split_64 rfl _ _ _
          rotate_left 2
          · intro c_64 k_64
            refine AW.iconst dX7_split_81 (by decide) ?_
            refine AW.goto (tgt := 86) dX7_split_82 rfl ?_
            exact k_64
          · intro c_64 k_64
            refine AW.aload dX7_split_67 rfl ?_
            refine AW.iload dX7_split_69 rfl ?_
            refine AW.iload dX7_split_71 rfl ?_
            refine AW.iload dX7_split_73 rfl ?_
            refine AW.callV (as := [vi _, vi _, vi _]) dX7_split_75 rfl rfl rfl okX4_isTakenByOther lkX7_141 W5.o rfl rfl rfl rfl rfl rfl rfl (kX4_isTakenByOther W5 B5 (AW.k1 ?_))
            refine' AW.if_eqJ 86 (tgt := 85) dX7_split_78 rfl _ _ _
            rotate_left 2
            · intro c_78 k_78
              refine AW.iconst dX7_split_85 (by decide) ?_
              exact k_78
            · intro c_78 k_78
              refine AW.iconst dX7_split_81 (by decide) ?_
              refine AW.goto (tgt := 86) dX7_split_82 rfl ?_
              exact k_78
            exact k_64
          refine AW.top (y := bz ((¬ cfn h s (Z 1 s) o1 = -1 ∧ ¬ cfn h s (Z 1 s) o1 = F) ∨ (¬ cfn h s (Z 1 s) o2 = -1 ∧ ¬ cfn h s (Z 1 s) o2 = F))) (by simp only [cto, bz_0, S1.hd]; unfold bz; (repeat' split) <;> first | rfl | omega) ?_
          refine AW.istore dX7_split_86 rfl ?_
          refine AW.aload dX7_split_88 rfl ?_
          refine AW.iload dX7_split_90 rfl ?_
          refine AW.callV (as := [vi _]) dX7_split_92 rfl rfl rfl okX4_isFreeNumber lkX7_145 W5.o rfl rfl rfl rfl rfl rfl rfl (kX4_isFreeNumber W5 B5 SQ1.2.2.2.2 (by omega) (AW.k1 ?_))
          refine AW.if_eq (tgt := 111) dX7_split_95 rfl (fun c_95 => ?_) (fun c_95 => ?_)
          · refine AW.throwS dX7_split_111 dX7_split_114 dX7_split_115 dX7_split_117 dX7_split_120 rfl okTX7_50 strX7_148 rfl rfl rfl rfl rfl ?_
            exact k3 (cd3_3 hF1 (fun y => y R) (by rw [eH, eH1, eH2, fre]; first | exact Or.inl (bz_0.mpr (fun z => bz_0.mp c_95 ⟨ekd ▸ z.1, fun y => (SQ1.wt (by omega)).mp y z.2.1⟩)) | exact Or.inr (bz_n0.mp c_100) | exact Or.inl (bz_0.mpr (fun z => z.2.2 (by have := bz_n0.mp c_108; rw [S1.hd] at this; exact this)))))
          · refine AW.iload dX7_split_98 rfl ?_
            refine AW.if_ne (tgt := 111) dX7_split_100 rfl (fun c_100 => ?_) (fun c_100 => ?_)
            · refine AW.throwS dX7_split_111 dX7_split_114 dX7_split_115 dX7_split_117 dX7_split_120 rfl okTX7_50 strX7_148 rfl rfl rfl rfl rfl ?_
              exact k3 (cd3_3 hF1 (fun y => y R) (by rw [eH, eH1, eH2, fre]; first | exact Or.inl (bz_0.mpr (fun z => bz_0.mp c_95 ⟨ekd ▸ z.1, fun y => (SQ1.wt (by omega)).mp y z.2.1⟩)) | exact Or.inr (bz_n0.mp c_100) | exact Or.inl (bz_0.mpr (fun z => z.2.2 (by have := bz_n0.mp c_108; rw [S1.hd] at this; exact this)))))
            · refine AW.aload dX7_split_103 rfl ?_
              refine AW.callV (as := []) dX7_split_105 rfl rfl rfl okX4_isFull lkX7_82 W5.o rfl rfl rfl rfl rfl rfl rfl (kX4_isFull W5 B5 (AW.k1 ?_))
              refine AW.if_eq (tgt := 121) dX7_split_108 rfl (fun c_108 => ?_) (fun c_108 => ?_)
              · have x23 : ¬ Z 1 s = 23 := fun y => bz_0.mp c_108 (by rw [S1.hd]; exact y)
                have t0 := bz_0.mp c_100
                have f0 := bz_n0.mp c_95
                rw [ekd] at f0
                have w0 : zwt Z s F = 0 := Classical.not_not.mp (fun y => f0.2 ((SQ1.wt (by omega)).mpr y))
                obtain ⟨d, hd⟩ := Int.eq_ofNat_of_zero_le (show 0 ≤ Z 1 s + 1 by omega)
                have hd2 : d < 24 := by omega
                have hdn : (Z 1 s).toNat = d - 1 := by omega
                rw [hdn] at rF5
                have pF : ¬ Z 5 (48 * (24 * s + (d - 1)) + F.toNat) = -1 := by omega
                obtain ⟨n5, n6, n7⟩ := S.n5 (s := s) (d := d) (by omega) (by omega) hd2
                have kv : 0 ≤ Z 4 (48 * s + F.toNat) ∧ Z 4 (48 * s + F.toNat) ≤ 9999 := by (have x := kF.1; rw [f0.1] at x; exact x)
                have GS0 := (GS.rf W5).mf (kd := 0) (v := (Z 4 (48 * s + F.toNat)).tdiv dv) (Int.le_refl _) (by rw [S1.fc]; omega)
                rw [S1.fc] at GS0
                have B60 := GS0.sb B5 (by omega)
                have GS1 := GS0.mf (kd := 0) (v := (Z 4 (48 * s + F.toNat)).tmod dv) (by rw [S1.fc]; omega) (by omega)
                have B6 := GS1.sb B5 (by omega)
                have CG1 := CG.base (w := 3) (a := F) (b := -1) (c := Z 2 s) (e := Z 2 s + 1) (fc := dv) GS1.2.2.2.2.1 (by rw [GS1.1, S1.hd]; omega) (by omega : 1 ≤ d)
                have CG2 := CG1.pla (f := Z 2 s) (n := o1) (nd := Z 6 (48 * (24 * s + (d - 1)) + F.toNat)) R.1
                have xN : ∀ o : Int, (0 ≤ o ∧ o ≤ 25) → cfn h s (Z 1 s) o = hI h (4, s, 100 + (d - 1)) o.toNat := fun o ho => by (unfold cfn; rw [S1.hd, if_pos ⟨by omega, ho⟩, hdn])
                rw [xN o1 R.1, xN o2 R.2.1] at t0
                refine AW.aload dX7_split_121 rfl ?_
                refine AW.aload dX7_split_123 rfl ?_
                refine AW.getIE (j := 0) W5.o dX7_split_125 lkX7_75 rfl rfl inC5 rfl (by exact S1.hd) ?_
                refine AW.iload dX7_split_128 rfl ?_
                refine AW.callV (as := [vi _, vi _]) dX7_split_130 rfl rfl rfl okX4_isNeeded lkX7_112 W5.o rfl rfl rfl rfl rfl rfl rfl (kX4_isNeeded W5 B5 (AW.k1 ?_))
                refine AW.top (y := Z 6 (48 * (24 * s + (d - 1)) + F.toNat)) (by rw [show Z 1 s = ((d - 1 : Nat) : Int) by omega]; exact S1.ndq K B.1.2.1 (by omega) ⟨rF0, rF1⟩ pF) ?_
                refine AW.istore dX7_split_133 rfl ?_
                refine AW.aload dX7_split_135 rfl ?_
                refine AW.iload dX7_split_137 rfl ?_
                refine AW.callV (as := [vi _]) dX7_split_139 rfl rfl rfl okX4_defaultOf lkX7_129 W5.o rfl rfl rfl rfl rfl rfl rfl (kX4_defaultOf W5 B5 (AW.k1 ?_))
                refine AW.top (y := Z 4 (48 * s + F.toNat)) (S1.ecd ⟨rF0, rF1⟩) ?_
                refine AW.istore dX7_split_142 rfl ?_
                refine AW.aload dX7_split_144 rfl ?_
                refine AW.iconst dX7_split_146 (by decide) ?_
                refine AW.iload dX7_split_147 rfl ?_
                refine AW.iload dX7_split_149 rfl ?_
                refine AW.callS (as := [vi _, vi _]) dX7_split_151 rfl rfl rfl okX7_quotient lkX7_150 rfl rfl rfl rfl rfl rfl (kX7_quotient  (AW.k1 ?_))
                refine AW.top (y := (Z 4 (48 * s + F.toNat)).tdiv dv) (by rw [cqu_eq (by omega), if_neg (by omega)]) ?_
                refine AW.callV (as := [vi _, vi _]) dX7_split_154 rfl rfl rfl okX4_makeField lkX7_88 W5.o rfl rfl rfl rfl rfl rfl rfl (kX4_makeField W5 B5 (by rw [S1.fc]; omega) (AW.k1 ?_))
                refine AW.top (y := Z 2 s) S1.fc ?_
                refine AW.istore dX7_split_157 rfl ?_
                refine AW.aload dX7_split_159 rfl ?_
                refine AW.iconst dX7_split_161 (by decide) ?_
                refine AW.iload dX7_split_162 rfl ?_
                refine AW.iload dX7_split_164 rfl ?_
                refine AW.callS (as := [vi _, vi _]) dX7_split_166 rfl rfl rfl okX7_remainder lkX7_153 rfl rfl rfl rfl rfl rfl (kX7_remainder  (AW.k1 ?_))
                refine AW.top (y := (Z 4 (48 * s + F.toNat)).tmod dv) (by rw [crm_eq (by omega), if_pos (by omega)]) ?_
                refine AW.callV (as := [vi _, vi _]) dX7_split_169 rfl rfl rfl okX4_makeField lkX7_88 GS0.2.2.2.2.1.o rfl rfl rfl rfl rfl rfl rfl (kX4_makeField (h := cmf h s 0 ((Z 4 (48 * s + F.toNat)).tdiv dv)) GS0.2.2.2.2.1 B60 (by rw [GS0.2.2.1]; omega) (AW.k1 ?_))
                refine AW.top (y := Z 2 s + 1) GS0.2.2.1 ?_
                refine AW.pcs (pc2 := 172) rfl ?_
                refine AW.istore dX7_split_172 rfl ?_
                refine AW.aload dX7_split_174 rfl ?_
                refine AW.new (kc := 7) (5, 24 * s + d, 0) n5 dX7_split_176 rfl inC7 lkX7_91 insX6 iniX6 rfl rfl ?_
                refine AW.dup dX7_split_179 rfl ?_
                refine AW.iconst dX7_split_180 (by decide) ?_
                refine AW.iload dX7_split_181 rfl ?_
                refine AW.iconst dX7_split_183 (by decide) ?_
                refine AW.iload dX7_split_184 rfl ?_
                refine AW.iload dX7_split_186 rfl ?_
                refine AW.iload dX7_split_188 rfl ?_
                refine AW.callI (as := [vi _, vi _, vi _, vi _, vi _, vi _]) dX7_split_190 rfl rfl rfl okX6_init lkX7_93 rfl rfl rfl rfl rfl (kX6_init (p := 24 * s + d) hT_new (hT_old (by intro e; simp at e) n6) (hT_old (by intro e; simp at e) n7) (AW.k0 ?_))
                refine AW.callV (as := [vq _]) dX7_split_193 rfl rfl rfl okX4_extend lkX7_96 (cns_S GS1.2.2.2.2.1).o rfl rfl rfl rfl rfl rfl rfl (kX4_extend (h := cns (cmf (cmf h s 0 ((Z 4 (48 * s + F.toNat)).tdiv dv)) s 0 ((Z 4 (48 * s + F.toNat)).tmod dv)) (24 * s + d) 3 F (-1) (Z 2 s) (Z 2 s + 1) dv) (cns_S GS1.2.2.2.2.1) (cns_B B6) cns_P ⟨by rw [cns_6.1]; omega, by rw [cns_6.2]; omega, by rw [cns_7.1]; omega, by rw [cns_7.2]; omega⟩ (by rw [cns_I rfl rfl rfl, GS1.1, S1.hd]; omega) (AW.k0 ?_))
                refine AW.aload dX7_split_196 rfl ?_
                refine AW.iload dX7_split_198 rfl ?_
                refine AW.iload_n dX7_split_200 rfl ?_
                refine AW.iload dX7_split_201 rfl ?_
                refine AW.callV (as := [vi _, vi _, vi _]) dX7_split_203 rfl rfl rfl okX4_place lkX7_100 CG1.2.2.2.2.2.2.1.o rfl rfl rfl rfl rfl rfl rfl (kX4_place (h := cE (cmf (cmf h s 0 ((Z 4 (48 * s + F.toNat)).tdiv dv)) s 0 ((Z 4 (48 * s + F.toNat)).tmod dv)) s d 3 F (-1) (Z 2 s) (Z 2 s + 1) dv) CG1.2.2.2.2.2.2.1 (CG1.sb B6 (by omega)) R.1 ⟨by omega, by rw [CG1.2.1 2 (by decide), GS1.2.2.1]; omega⟩ (AW.k0 ?_))
                refine AW.aload dX7_split_206 rfl ?_
                refine AW.iload dX7_split_208 rfl ?_
                refine AW.iload dX7_split_210 rfl ?_
                refine AW.iload dX7_split_212 rfl ?_
                refine AW.callV (as := [vi _, vi _, vi _]) dX7_split_214 rfl rfl rfl okX4_place lkX7_100 CG2.2.2.2.2.2.2.1.o rfl rfl rfl rfl rfl rfl rfl (kX4_place (h := cpl (cE (cmf (cmf h s 0 ((Z 4 (48 * s + F.toNat)).tdiv dv)) s 0 ((Z 4 (48 * s + F.toNat)).tmod dv)) s d 3 F (-1) (Z 2 s) (Z 2 s + 1) dv) s (Z 2 s) o1 (Z 6 (48 * (24 * s + (d - 1)) + F.toNat))) CG2.2.2.2.2.2.2.1 (CG2.sb B6 (by omega)) R.2.1 ⟨by omega, by rw [CG2.2.1 2 (by decide), GS1.2.2.1]; omega⟩ (AW.k0 ?_))
                refine AW.iload dX7_split_217 rfl ?_
                refine AW.iret dX7_split_219 rfl ?_
                have e0 : zcSpl Z s n o1 o2 dv = 0 := cd3_z hF1 (fun y => y R) (by rw [eH, eH1, eH2, fre, xN o1 R.1, xN o2 R.2.1]; exact fun w => w.elim (fun q => bz_0.mp q ⟨f0.1, w0, x23⟩) (fun q => t0 q))
                have P := gen2 S hs.2 hd.symm hd2 (by omega) R.1 R.2.1 R.2.2.1 (vSpl (n := n) (o1 := o1) (o2 := o2) (dv := dv) (by omega) K hd hd2 (by omega) eH ⟨rF0, rF1⟩) (vSpl_n (n := n) (o1 := o1) (o2 := o2) (dv := dv) K hd eH ⟨rF0, rF1⟩) ⟨rF0, rF1⟩ (by omega) (by omega) (tdiv_rng kv (by omega)) (tmod_rng kv (by omega)) (by omega) pF (fun _ => SQ1.now w0)
                exact k0 e0 _ ⟨A, P.1⟩ P.2
              · refine AW.throwS dX7_split_111 dX7_split_114 dX7_split_115 dX7_split_117 dX7_split_120 rfl okTX7_50 strX7_148 rfl rfl rfl rfl rfl ?_
                exact k3 (cd3_3 hF1 (fun y => y R) (by rw [eH, eH1, eH2, fre]; first | exact Or.inl (bz_0.mpr (fun z => bz_0.mp c_95 ⟨ekd ▸ z.1, fun y => (SQ1.wt (by omega)).mp y z.2.1⟩)) | exact Or.inr (bz_n0.mp c_100) | exact Or.inl (bz_0.mpr (fun z => z.2.2 (by have := bz_n0.mp c_108; rw [S1.hd] at this; exact this)))))
        · refine AW.throwS dX7_split_44 dX7_split_47 dX7_split_48 dX7_split_50 dX7_split_53 rfl okTX7_70 strX7_139 rfl rfl rfl rfl rfl ?_
          exact k2 (cd3_2 hF1 (fun z => by first | exact absurd z.1 (bz_0.mp c_19) | exact absurd z.2.1 (bz_0.mp c_27) | exact absurd z.2.2.2 (bz_0.mp c_35) | exact absurd c_41 z.2.2.1))
set_option maxHeartbeats 4000000 in
theorem sX7_join {s n o1 o2 dv : Int} (S : SIM h Z c) (B : ZB Z) (k1 : zcJoi Z s o1 o2 n dv = 1 → Q h (.inr eIx)) (k2 : zcJoi Z s o1 o2 n dv = 2 → Q h (.inr eIa)) (k3 : zcJoi Z s o1 o2 n dv = 3 → Q h (.inr eIs))
    (k0 : zcJoi Z s o1 o2 n dv = 0 → ∀ g, SIM g (zJoi Z s o1 o2 n dv) c → Fr nMo h g → Q g (.inl (some (vi (Z 2 s.toNat))))) : AC mX7_join fX7_join loX7_join 8 40 h [vr mF, vi s, vi o1, vi o2, vi n, vi dv] Q := by
  obtain ⟨A, S⟩ := S
  have W := S.1.1
  have C := S.1.2.1
  have eC := S.1.2.2.1.1
  have zz := S.zz
  refine AC.mk (by decide) (Nat.le_of_ble_eq_true rfl) ?_
  by_cases hs : ¬ (0 ≤ s ∧ s < Z 0 0)
  · have e1 : zcJoi Z s o1 o2 n dv = 1 := cd3_1 (Or.inl (by unfold zatH; rw [if_neg hs]))
    refine AW.aload_n dX7_join_0 rfl ?_
    refine AW.iload_n dX7_join_1 rfl ?_
    refine AW.callV (as := [vi _]) dX7_join_2 rfl rfl rfl okX7_schemaAt lkX7_58 W.o rfl rfl rfl rfl rfl rfl rfl (kX7_schemaAt W C (fun _ => k1 e1) (fun z => absurd (eC ▸ z) hs))
    skip
  have hs := Classical.not_not.mp hs
  obtain ⟨s, rfl⟩ := Int.eq_ofNat_of_zero_le hs.1
  obtain ⟨S1, K, SQ1⟩ := S.sc hs.2
  have SQ1 := SQ1 (by omega)
  have b1 := K.b1
  have b2 := K.b2
  have W5 := S1.1
  have B5 := S1.sb K (by rw [SQ1.1]; exact SQ1.2.1)
  have bI := B.1.2.2.2.2.2 s (by omega)
  have eH := S1.atH K hs.2 (n := n)
  have eH1 := S1.atH K hs.2 (n := o1)
  have eH2 := S1.atH K hs.2 (n := o2)
  have rF := S1.fr K (v := Z 1 s) (n := o1)
  have rG := S1.fr K (v := Z 1 s) (n := o2)
  have eo : o1 = o2 → cfn h s (Z 1 s) o1 = cfn h s (Z 1 s) o2 := fun e => by rw [e]
  generalize eF : cfn h s (Z 1 s) o1 = F at eH1 rF eo
  generalize eG : cfn h s (Z 1 s) o2 = E at eH2 rG eo
  by_cases hF : F = -1
  · have e1 : zcJoi Z s o1 o2 n dv = 1 := cd3_1 (Or.inl (by rw [eH1]; exact hF))
    refine AW.aload_n dX7_join_0 rfl ?_
    refine AW.iload_n dX7_join_1 rfl ?_
    refine AW.callV (as := [vi _]) dX7_join_2 rfl rfl rfl okX7_schemaAt lkX7_58 W.o rfl rfl rfl rfl rfl rfl rfl (kX7_schemaN W C (by rw [eC]; exact hs.2) (AW.k1 ?_))
    refine AW.astore dX7_join_5 rfl ?_
    refine AW.aload dX7_join_7 rfl ?_
    refine AW.iload_n dX7_join_9 rfl ?_
    refine AW.callS (as := [vq _, vi _]) dX7_join_10 rfl rfl rfl okX7_fieldOfHead lkX7_104 rfl rfl rfl rfl rfl rfl (kX7_fieldOfHead W5 B5 (fun _ => k1 e1) (fun z => absurd (by rw [S1.hd, eF]; exact hF) z))
    skip
  by_cases hG : E = -1
  · have e1 : zcJoi Z s o1 o2 n dv = 1 := cd3_1 (Or.inr (by rw [eH2]; exact hG))
    refine AW.aload_n dX7_join_0 rfl ?_
    refine AW.iload_n dX7_join_1 rfl ?_
    refine AW.callV (as := [vi _]) dX7_join_2 rfl rfl rfl okX7_schemaAt lkX7_58 W.o rfl rfl rfl rfl rfl rfl rfl (kX7_schemaN W C (by rw [eC]; exact hs.2) (AW.k1 ?_))
    refine AW.astore dX7_join_5 rfl ?_
    refine AW.aload dX7_join_7 rfl ?_
    refine AW.iload_n dX7_join_9 rfl ?_
    refine AW.callS (as := [vq _, vi _]) dX7_join_10 rfl rfl rfl okX7_fieldOfHead lkX7_104 rfl rfl rfl rfl rfl rfl (kX7_fieldOfHeadE W5 B5 (by rw [S1.hd]; exact eF) hF (AW.k1 ?_))
    refine AW.istore dX7_join_13 rfl ?_
    refine AW.aload dX7_join_15 rfl ?_
    refine AW.iload_n dX7_join_17 rfl ?_
    refine AW.callS (as := [vq _, vi _]) dX7_join_18 rfl rfl rfl okX7_fieldOfHead lkX7_104 rfl rfl rfl rfl rfl rfl (kX7_fieldOfHead W5 B5 (fun _ => k1 e1) (fun z => absurd (by rw [S1.hd, eG]; exact hG) z))
    skip
  obtain ⟨-, rn1, rF0, rF1, rF5⟩ := rF.resolve_left hF
  obtain ⟨-, rn2, rG0, rG1, rG5⟩ := rG.resolve_left hG
  have hFG1 : ¬ (zatH Z s o1 = -1 ∨ zatH Z s o2 = -1) := by rw [eH1, eH2]; exact fun z => z.elim hF hG
  have e48 : (48 * (s : Int) + F).toNat = 48 * s + F.toNat := by omega
  have e49 : (48 * (s : Int) + E).toNat = 48 * s + E.toNat := by omega
  have ekd : ckd h s F = Z 3 (48 * s + F.toNat) := by rw [S1.eck ⟨by omega, rF1⟩]; unfold zkof; rw [if_neg hF, e48]
  have ekg : ckd h s E = Z 3 (48 * s + E.toNat) := by rw [S1.eck ⟨by omega, rG1⟩]; unfold zkof; rw [if_neg hG, e49]
  have kF := (K.2.2.2.1 F.toNat (by omega))
  have kG := (K.2.2.2.1 E.toNat (by omega))
  have fre : zfre Z s F = bz (Z 3 (48 * s + F.toNat) = 0 ∧ zwt Z s F = 0 ∧ ¬ Z 1 s = 23) := by unfold zfre; rw [e48]; rfl
  have frg : zfre Z s E = bz (Z 3 (48 * s + E.toNat) = 0 ∧ zwt Z s E = 0 ∧ ¬ Z 1 s = 23) := by unfold zfre; rw [e49]; rfl
  have cf1 : cfr h s F = bz (Z 3 (48 * s + F.toNat) = 0 ∧ zwt Z s F = 0) := by
    unfold cfr; rw [ekd]
    have := SQ1.wt (f := F) (by omega)
    unfold bz; (repeat' split) <;> first | rfl | (exfalso; simp_all; done)
  have cf2 : cfr h s E = bz (Z 3 (48 * s + E.toNat) = 0 ∧ zwt Z s E = 0) := by
    unfold cfr; rw [ekg]
    have := SQ1.wt (f := E) (by omega)
    unfold bz; (repeat' split) <;> first | rfl | (exfalso; simp_all; done)
  refine AW.aload_n dX7_join_0 rfl ?_
  refine AW.iload_n dX7_join_1 rfl ?_
  refine AW.callV (as := [vi _]) dX7_join_2 rfl rfl rfl okX7_schemaAt lkX7_58 W.o rfl rfl rfl rfl rfl rfl rfl (kX7_schemaN W C (by rw [eC]; exact hs.2) (AW.k1 ?_))
  refine AW.astore dX7_join_5 rfl ?_
  refine AW.aload dX7_join_7 rfl ?_
  refine AW.iload_n dX7_join_9 rfl ?_
  refine AW.callS (as := [vq _, vi _]) dX7_join_10 rfl rfl rfl okX7_fieldOfHead lkX7_104 rfl rfl rfl rfl rfl rfl (kX7_fieldOfHeadE W5 B5 (by rw [S1.hd]; exact eF) hF (AW.k1 ?_))
  refine AW.istore dX7_join_13 rfl ?_
  refine AW.aload dX7_join_15 rfl ?_
  refine AW.iload_n dX7_join_17 rfl ?_
  refine AW.callS (as := [vq _, vi _]) dX7_join_18 rfl rfl rfl okX7_fieldOfHead lkX7_104 rfl rfl rfl rfl rfl rfl (kX7_fieldOfHeadE W5 B5 (by rw [S1.hd]; exact eG) hG (AW.k1 ?_))
  refine AW.istore dX7_join_21 rfl ?_
  refine AW.iload dX7_join_23 rfl ?_
  refine AW.callS (as := [vi _]) dX7_join_25 rfl rfl rfl okX7_isName lkX7_62 rfl rfl rfl rfl rfl rfl (kX7_isName  (AW.k1 ?_))
  refine AW.if_eq (tgt := 44) dX7_join_28 rfl (fun c_28 => ?_) (fun c_28 => ?_)
  · refine AW.throwS dX7_join_44 dX7_join_47 dX7_join_48 dX7_join_50 dX7_join_53 rfl okTX7_70 strX7_156 rfl rfl rfl rfl rfl ?_
    exact k2 (cd3_2 hFG1 (fun z => by first | exact absurd z.1 (bz_0.mp c_28) | exact absurd z.2.1 (bz_0.mp c_36) | exact absurd (by rw [eH1, eH2]; exact eo c_41) z.2.2))
  · refine AW.iload dX7_join_31 rfl ?_
    refine AW.callS (as := [vi _]) dX7_join_33 rfl rfl rfl okX7_isFactor lkX7_136 rfl rfl rfl rfl rfl rfl (kX7_isFactor  (AW.k1 ?_))
    refine AW.if_eq (tgt := 44) dX7_join_36 rfl (fun c_36 => ?_) (fun c_36 => ?_)
    · refine AW.throwS dX7_join_44 dX7_join_47 dX7_join_48 dX7_join_50 dX7_join_53 rfl okTX7_70 strX7_156 rfl rfl rfl rfl rfl ?_
      exact k2 (cd3_2 hFG1 (fun z => by first | exact absurd z.1 (bz_0.mp c_28) | exact absurd z.2.1 (bz_0.mp c_36) | exact absurd (by rw [eH1, eH2]; exact eo c_41) z.2.2))
    · refine AW.iload_n dX7_join_39 rfl ?_
      refine AW.iload_n dX7_join_40 rfl ?_
      refine AW.icmp_ne (tgt := 54) dX7_join_41 rfl (fun c_41 => ?_) (fun c_41 => ?_)
      · have hne : ¬ F = E := fun e => c_41 (by rw [← rF5, ← rG5, e])
        have R : ((0 ≤ n ∧ n ≤ 25) ∧ (2 ≤ dv ∧ dv ≤ 100) ∧ ¬ zatH Z s o1 = zatH Z s o2) := ⟨bz_n0.mp c_28, bz_n0.mp c_36, by rw [eH1, eH2]; exact hne⟩
        refine AW.aload dX7_join_54 rfl ?_
        refine AW.iload dX7_join_56 rfl ?_
        refine AW.callV (as := [vi _]) dX7_join_58 rfl rfl rfl okX4_isFreeNumber lkX7_145 W5.o rfl rfl rfl rfl rfl rfl rfl (kX4_isFreeNumber W5 B5 SQ1.2.2.2.2 (by omega) (AW.k1 ?_))
        refine' AW.if_eqJ 79 (tgt := 78) dX7_join_61 rfl _ _ _
        rotate_left 2
        · intro c_61 k_61
          refine AW.iconst dX7_join_78 (by decide) ?_
          exact k_61
        · intro c_61 k_61
          refine AW.aload dX7_join_64 rfl ?_
          refine AW.iload dX7_join_66 rfl ?_
          refine AW.callV (as := [vi _]) dX7_join_68 rfl rfl rfl okX4_isFreeNumber lkX7_145 W5.o rfl rfl rfl rfl rfl rfl rfl (kX4_isFreeNumber W5 B5 SQ1.2.2.2.2 (by omega) (AW.k1 ?_))
          refine' AW.if_eqJ 79 (tgt := 78) dX7_join_71 rfl _ _ _
          rotate_left 2
          · intro c_71 k_71
            refine AW.iconst dX7_join_78 (by decide) ?_
            exact k_71
          · intro c_71 k_71
            refine AW.iconst dX7_join_74 (by decide) ?_
            refine AW.goto (tgt := 79) dX7_join_75 rfl ?_
            exact k_71
          exact k_61
        refine AW.top (y := bz ((Z 3 (48 * s + F.toNat) = 0 ∧ zwt Z s F = 0) ∧ (Z 3 (48 * s + E.toNat) = 0 ∧ zwt Z s E = 0))) (by rw [cf1, cf2]; simp only [bz_0]; unfold bz; (repeat' split) <;> first | rfl | omega) ?_
        refine AW.istore dX7_join_79 rfl ?_
        refine AW.iload dX7_join_81 rfl ?_
        refine AW.if_eq (tgt := 108) dX7_join_83 rfl (fun c_83 => ?_) (fun c_83 => ?_)
        · refine AW.throwS dX7_join_108 dX7_join_111 dX7_join_112 dX7_join_114 dX7_join_117 rfl okTX7_50 strX7_148 rfl rfl rfl rfl rfl ?_
          exact k3 (cd3_3 hFG1 (fun y => y R) (by rw [eH, eH1, eH2, fre, frg]; first | (have x := bz_0.mp c_83; by_cases y : (Z 3 (48 * s + F.toNat) = 0 ∧ zwt Z s F = 0); exact Or.inr (Or.inl (bz_0.mpr (fun z => x ⟨y, z.1, z.2.1⟩))); exact Or.inl (bz_0.mpr (fun z => y ⟨z.1, z.2.1⟩))) | (have x := bz_n0.mp c_97; rw [S1.hd] at x; exact Or.inr (Or.inr ⟨⟨x.1, x.2.1⟩, x.1, x.2.2⟩)) | exact Or.inl (bz_0.mpr (fun z => z.2.2 (by have := bz_n0.mp c_105; rw [S1.hd] at this; exact this)))))
        · refine AW.aload dX7_join_86 rfl ?_
          refine AW.iload dX7_join_88 rfl ?_
          refine AW.iload dX7_join_90 rfl ?_
          refine AW.iload dX7_join_92 rfl ?_
          refine AW.callV (as := [vi _, vi _, vi _]) dX7_join_94 rfl rfl rfl okX4_isTakenByOther lkX7_141 W5.o rfl rfl rfl rfl rfl rfl rfl (kX4_isTakenByOther W5 B5 (AW.k1 ?_))
          refine AW.if_ne (tgt := 108) dX7_join_97 rfl (fun c_97 => ?_) (fun c_97 => ?_)
          · refine AW.throwS dX7_join_108 dX7_join_111 dX7_join_112 dX7_join_114 dX7_join_117 rfl okTX7_50 strX7_148 rfl rfl rfl rfl rfl ?_
            exact k3 (cd3_3 hFG1 (fun y => y R) (by rw [eH, eH1, eH2, fre, frg]; first | (have x := bz_0.mp c_83; by_cases y : (Z 3 (48 * s + F.toNat) = 0 ∧ zwt Z s F = 0); exact Or.inr (Or.inl (bz_0.mpr (fun z => x ⟨y, z.1, z.2.1⟩))); exact Or.inl (bz_0.mpr (fun z => y ⟨z.1, z.2.1⟩))) | (have x := bz_n0.mp c_97; rw [S1.hd] at x; exact Or.inr (Or.inr ⟨⟨x.1, x.2.1⟩, x.1, x.2.2⟩)) | exact Or.inl (bz_0.mpr (fun z => z.2.2 (by have := bz_n0.mp c_105; rw [S1.hd] at this; exact this)))))
          · refine AW.aload dX7_join_100 rfl ?_
            refine AW.callV (as := []) dX7_join_102 rfl rfl rfl okX4_isFull lkX7_82 W5.o rfl rfl rfl rfl rfl rfl rfl (kX4_isFull W5 B5 (AW.k1 ?_))
            refine AW.if_eq (tgt := 118) dX7_join_105 rfl (fun c_105 => ?_) (fun c_105 => ?_)
            · have x23 : ¬ Z 1 s = 23 := fun y => bz_0.mp c_105 (by rw [S1.hd]; exact y)
              have t0 := bz_0.mp c_97
              rw [S1.hd] at t0
              obtain ⟨⟨f0, w0⟩, g0, w1⟩ := bz_n0.mp c_83
              obtain ⟨d, hd⟩ := Int.eq_ofNat_of_zero_le (show 0 ≤ Z 1 s + 1 by omega)
              have hd2 : d < 24 := by omega
              have hdn : (Z 1 s).toNat = d - 1 := by omega
              rw [hdn] at rF5 rG5
              have pF : ¬ Z 5 (48 * (24 * s + (d - 1)) + F.toNat) = -1 := by omega
              have pG : ¬ Z 5 (48 * (24 * s + (d - 1)) + E.toNat) = -1 := by omega
              obtain ⟨n5, n6, n7⟩ := S.n5 (s := s) (d := d) (by omega) (by omega) hd2
              have kv : 0 ≤ Z 4 (48 * s + F.toNat) ∧ Z 4 (48 * s + F.toNat) ≤ 9999 := by (have x := kF.1; rw [f0] at x; exact x)
              have kw : 0 ≤ Z 4 (48 * s + E.toNat) ∧ Z 4 (48 * s + E.toNat) ≤ 9999 := by (have x := kG.1; rw [g0] at x; exact x)
              have GS1 := (GS.rf W5).mf (kd := 0) (v := zjoi (Z 4 (48 * s + F.toNat)) (Z 4 (48 * s + E.toNat)) dv) (Int.le_refl _) (by rw [S1.fc]; omega)
              have B6 := GS1.sb B5 (by rw [S1.fc]; omega)
              have CG1 := CG.base (w := 4) (a := F) (b := E) (c := Z 2 s) (e := -1) (fc := dv) GS1.2.2.2.2.1 (by rw [GS1.1, S1.hd]; omega) (by omega : 1 ≤ d)
              have xN : cfn h s (Z 1 s) n = hI h (4, s, 100 + (d - 1)) n.toNat := by (unfold cfn; rw [S1.hd, if_pos ⟨by omega, R.1⟩, hdn])
              rw [xN] at t0
              refine AW.aload dX7_join_118 rfl ?_
              refine AW.aload dX7_join_120 rfl ?_
              refine AW.getIE (j := 0) W5.o dX7_join_122 lkX7_75 rfl rfl inC5 rfl (by exact S1.hd) ?_
              refine AW.iload dX7_join_125 rfl ?_
              refine AW.callV (as := [vi _, vi _]) dX7_join_127 rfl rfl rfl okX4_isNeeded lkX7_112 W5.o rfl rfl rfl rfl rfl rfl rfl (kX4_isNeeded W5 B5 (AW.k1 ?_))
              refine AW.top (y := Z 6 (48 * (24 * s + (d - 1)) + F.toNat)) (by rw [show Z 1 s = ((d - 1 : Nat) : Int) by omega]; exact S1.ndq K B.1.2.1 (by omega) ⟨rF0, rF1⟩ pF) ?_
              refine' AW.if_neJ 153 (tgt := 148) dX7_join_130 rfl _ _ _
              rotate_left 2
              · intro c_130 k_130
                refine AW.iconst dX7_join_148 (by decide) ?_
                refine AW.goto (tgt := 153) dX7_join_149 rfl ?_
                exact k_130
              · intro c_130 k_130
                refine AW.aload dX7_join_133 rfl ?_
                refine AW.aload dX7_join_135 rfl ?_
                refine AW.getIE (j := 0) W5.o dX7_join_137 lkX7_75 rfl rfl inC5 rfl (by exact S1.hd) ?_
                refine AW.iload dX7_join_140 rfl ?_
                refine AW.callV (as := [vi _, vi _]) dX7_join_142 rfl rfl rfl okX4_isNeeded lkX7_112 W5.o rfl rfl rfl rfl rfl rfl rfl (kX4_isNeeded W5 B5 (AW.k1 ?_))
                refine AW.top (y := Z 6 (48 * (24 * s + (d - 1)) + E.toNat)) (by rw [show Z 1 s = ((d - 1 : Nat) : Int) by omega]; exact S1.ndq K B.1.2.1 (by omega) ⟨rG0, rG1⟩ pG) ?_
                refine' AW.if_eqJ 153 (tgt := 152) dX7_join_145 rfl _ _ _
                rotate_left 2
                · intro c_145 k_145
                  refine AW.iconst dX7_join_152 (by decide) ?_
                  exact k_145
                · intro c_145 k_145
                  refine AW.iconst dX7_join_148 (by decide) ?_
                  refine AW.goto (tgt := 153) dX7_join_149 rfl ?_
                  exact k_145
                exact k_130
              refine AW.top (y := bz (¬ Z 6 (48 * (24 * s + (d - 1)) + F.toNat) = 0 ∨ ¬ Z 6 (48 * (24 * s + (d - 1)) + E.toNat) = 0)) (by unfold bz; (repeat' split) <;> first | rfl | omega) ?_
              refine AW.istore dX7_join_153 rfl ?_
              refine AW.aload dX7_join_155 rfl ?_
              refine AW.iload dX7_join_157 rfl ?_
              refine AW.callV (as := [vi _]) dX7_join_159 rfl rfl rfl okX4_defaultOf lkX7_129 W5.o rfl rfl rfl rfl rfl rfl rfl (kX4_defaultOf W5 B5 (AW.k1 ?_))
              refine AW.top (y := Z 4 (48 * s + F.toNat)) (S1.ecd ⟨rF0, rF1⟩) ?_
              refine AW.aload dX7_join_162 rfl ?_
              refine AW.iload dX7_join_164 rfl ?_
              refine AW.callV (as := [vi _]) dX7_join_166 rfl rfl rfl okX4_defaultOf lkX7_129 W5.o rfl rfl rfl rfl rfl rfl rfl (kX4_defaultOf W5 B5 (AW.k1 ?_))
              refine AW.top (y := Z 4 (48 * s + E.toNat)) (S1.ecd ⟨rG0, rG1⟩) ?_
              refine AW.iload dX7_join_169 rfl ?_
              refine AW.callS (as := [vi _, vi _, vi _]) dX7_join_171 rfl rfl rfl okX7_combined lkX7_158 rfl rfl rfl rfl rfl rfl (kX7_combined  (AW.k1 ?_))
              refine AW.istore dX7_join_174 rfl ?_
              refine AW.aload dX7_join_176 rfl ?_
              refine AW.iconst dX7_join_178 (by decide) ?_
              refine AW.iload dX7_join_179 rfl ?_
              refine AW.callV (as := [vi _, vi _]) dX7_join_181 rfl rfl rfl okX4_makeField lkX7_88 W5.o rfl rfl rfl rfl rfl rfl rfl (kX4_makeField W5 B5 (by rw [S1.fc]; omega) (AW.k1 ?_))
              refine AW.top (y := Z 2 s) S1.fc ?_
              refine AW.istore dX7_join_184 rfl ?_
              refine AW.aload dX7_join_186 rfl ?_
              refine AW.new (kc := 7) (5, 24 * s + d, 0) n5 dX7_join_188 rfl inC7 lkX7_91 insX6 iniX6 rfl rfl ?_
              refine AW.dup dX7_join_191 rfl ?_
              refine AW.iconst dX7_join_192 (by decide) ?_
              refine AW.iload dX7_join_193 rfl ?_
              refine AW.iload dX7_join_195 rfl ?_
              refine AW.iload dX7_join_197 rfl ?_
              refine AW.iconst dX7_join_199 (by decide) ?_
              refine AW.pcs (pc2 := 200) rfl ?_
              refine AW.iload dX7_join_200 rfl ?_
              refine AW.callI (as := [vi _, vi _, vi _, vi _, vi _, vi _]) dX7_join_202 rfl rfl rfl okX6_init lkX7_93 rfl rfl rfl rfl rfl (kX6_init (p := 24 * s + d) hT_new (hT_old (by intro e; simp at e) n6) (hT_old (by intro e; simp at e) n7) (AW.k0 ?_))
              refine AW.callV (as := [vq _]) dX7_join_205 rfl rfl rfl okX4_extend lkX7_96 (cns_S GS1.2.2.2.2.1).o rfl rfl rfl rfl rfl rfl rfl (kX4_extend (h := cns (cmf h s 0 (zjoi (Z 4 (48 * s + F.toNat)) (Z 4 (48 * s + E.toNat)) dv)) (24 * s + d) 4 F E (Z 2 s) (-1) dv) (cns_S GS1.2.2.2.2.1) (cns_B B6) cns_P ⟨by rw [cns_6.1]; omega, by rw [cns_6.2]; omega, by rw [cns_7.1]; omega, by rw [cns_7.2]; omega⟩ (by rw [cns_I rfl rfl rfl, GS1.1, S1.hd]; omega) (AW.k0 ?_))
              refine AW.aload dX7_join_208 rfl ?_
              refine AW.iload dX7_join_210 rfl ?_
              refine AW.iload dX7_join_212 rfl ?_
              refine AW.iload dX7_join_214 rfl ?_
              refine AW.callV (as := [vi _, vi _, vi _]) dX7_join_216 rfl rfl rfl okX4_place lkX7_100 CG1.2.2.2.2.2.2.1.o rfl rfl rfl rfl rfl rfl rfl (kX4_place (h := cE (cmf h s 0 (zjoi (Z 4 (48 * s + F.toNat)) (Z 4 (48 * s + E.toNat)) dv)) s d 4 F E (Z 2 s) (-1) dv) CG1.2.2.2.2.2.2.1 (CG1.sb B6 (by omega)) R.1 ⟨by omega, by rw [CG1.2.1 2 (by decide), GS1.2.2.1, S1.fc]; omega⟩ (AW.k0 ?_))
              refine AW.iload dX7_join_219 rfl ?_
              refine AW.iret dX7_join_221 rfl ?_
              have e0 : zcJoi Z s o1 o2 n dv = 0 := cd3_z hFG1 (fun y => y R) (by rw [eH, eH1, eH2, fre, frg, xN]; exact fun w => w.elim (fun q => bz_0.mp q ⟨f0, w0, x23⟩) (fun q => q.elim (fun q => bz_0.mp q ⟨g0, w1, x23⟩) (fun q => t0 ⟨q.1.1, q.1.2, q.2.2⟩)))
              have V3 := vJoi_n (n := n) (o1 := o1) (o2 := o2) (dv := dv) K hd eH1 ⟨rF0, rF1⟩ eH2 ⟨rG0, rG1⟩ hne
              have P := gen1 (M1 := fun f => if (f : Int) = F then -1 else if (f : Int) = E then -1 else Z 5 (48 * (24 * s + (d - 1)) + f)) S hs.2 hd.symm hd2 (by omega) R.1 (vJoi (n := n) (o1 := o1) (o2 := o2) (dv := dv) (by omega) K hd hd2 (by omega) eH1 ⟨rF0, rF1⟩ eH2 ⟨rG0, rG1⟩ hne) (fun f => by by_cases z : (f : Int) = F; rw [if_pos z, if_pos (Or.inl z)]; by_cases y : (f : Int) = E; rw [if_neg z, if_pos y, if_pos (Or.inr y)]; rw [if_neg z, if_neg y, if_neg (fun x => x.elim z y)]) V3 (by omega) (by omega) (by omega) (zjoi_rng kv kw R.2.1) (by decide) (Or.inr (Or.inr (Or.inr (Or.inr (Or.inl ⟨rfl, rF0, rG0, by omega, rfl, by omega⟩))))) (fun _ => pF) (fun _ => pG) (fun y i hi => ⟨SQ1.now w0 i hi, SQ1.now w1 i hi⟩)
              exact k0 e0 _ ⟨A, P.1⟩ P.2
            · refine AW.throwS dX7_join_108 dX7_join_111 dX7_join_112 dX7_join_114 dX7_join_117 rfl okTX7_50 strX7_148 rfl rfl rfl rfl rfl ?_
              exact k3 (cd3_3 hFG1 (fun y => y R) (by rw [eH, eH1, eH2, fre, frg]; first | (have x := bz_0.mp c_83; by_cases y : (Z 3 (48 * s + F.toNat) = 0 ∧ zwt Z s F = 0); exact Or.inr (Or.inl (bz_0.mpr (fun z => x ⟨y, z.1, z.2.1⟩))); exact Or.inl (bz_0.mpr (fun z => y ⟨z.1, z.2.1⟩))) | (have x := bz_n0.mp c_97; rw [S1.hd] at x; exact Or.inr (Or.inr ⟨⟨x.1, x.2.1⟩, x.1, x.2.2⟩)) | exact Or.inl (bz_0.mpr (fun z => z.2.2 (by have := bz_n0.mp c_105; rw [S1.hd] at this; exact this)))))
      · refine AW.throwS dX7_join_44 dX7_join_47 dX7_join_48 dX7_join_50 dX7_join_53 rfl okTX7_70 strX7_156 rfl rfl rfl rfl rfl ?_
        exact k2 (cd3_2 hFG1 (fun z => by first | exact absurd z.1 (bz_0.mp c_28) | exact absurd z.2.1 (bz_0.mp c_36) | exact absurd (by rw [eH1, eH2]; exact eo c_41) z.2.2))
end F3

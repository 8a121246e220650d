/-! ===== the law's sets, whole ===== -/
section E2
variable {Q : AH → AO → Prop} {h g h1 G : AH} {Z Y : ZT} {c b L r f w i : Nat} {mc ms bc bs : Nat}
theorem zinR_n {n : Int} (hr : (r : Int) < Z 19 0) (h20 : Z 20 r = 0) (hw : Z 21 r = (w : Int)) : zinR Z (r : Int) n = zfind Z 0 (w : Int) n := by
  unfold zinR
  rw [Int.toNat_natCast, h20, hw, if_pos (by omega)]
theorem zcSok_n {n x : Int} (h20 : Z 20 r = 0) (hw : Z 21 r = (w : Int)) (ef : zinR Z (r : Int) n = (f : Int)) : ¬ zcSok Z (r : Int) n x = 0 ↔ ((0 ≤ x ∧ x ≤ zmost (Z 3 f)) ∨ (x = -1 ∧ Z 6 (48 * w + f) = 0)) := by
  unfold zcSok
  rw [ef, Int.toNat_natCast, h20, hw, show (48 * 0 + (f : Int)).toNat = f by omega, show (48 * (24 * 0 + (w : Int)) + (f : Int)).toNat = 48 * w + f by omega]
  exact ⟨fun z => (bz_n0.mp z).2, fun z => bz_n0.mpr ⟨by omega, z⟩⟩
set_option maxHeartbeats 2000000 in
theorem kL_isSet {n x : Int} (J : IV L h Z c b) (V : JV h Z) (hc : c < 512) (hrow : (r : Int) ≤ Z 19 0) (hn : 0 ≤ n ∧ n ≤ 6) (hx : -1 ≤ x ∧ x ≤ 10000) (k : ∀ g Y c', c' ≤ c + 1 → IV L g Y c' b → JV g Y → Q g (.inl (some (vi 1)))) : AC mL_isSet fL_isSet loL_isSet 10 60 h [vr mF, vr (la 1), vr (la 3), vr (la 4), vr (la 5), vr (la 6), vr (la 8), vi (r : Int), vi n, vi x] Q := by
  have K := J.K
  have b1 := K.b1
  have b2 := K.b2
  have v2 := V.b2
  refine AC.mk (by decide) (Nat.le_of_ble_eq_true rfl) ?_
  by_cases hr : (r : Int) < Z 19 0
  · obtain ⟨R, B, h20⟩ := V.r hr
    have bv := B.v
    obtain ⟨w, hw⟩ := Int.eq_ofNat_of_zero_le bv.1
    rw [hw] at bv
    have zin := zinR_n (n := n) hr h20 hw
    have zr := zf_r K (a := (w : Int)) (n := n)
    by_cases hf : zfind Z 0 (w : Int) n = -1
    · have zin' : zinR Z (r : Int) n = -1 := zin.trans hf
      refine AW.iload dL_isSet_0 rfl ?_
      refine AW.aload_n dL_isSet_2 rfl ?_
      refine AW.iconst dL_isSet_3 (by decide) ?_
      refine AW.aldIE dL_isSet_4 J.T.a4 (by omega) (by omega) (by exact V.g2) ?_
      refine AW.icmp_geF (tgt := 25) dL_isSet_5 rfl (by omega) ?_
      refine AW.aload_n dL_isSet_8 rfl ?_
      refine AW.aload_n dL_isSet_9 rfl ?_
      refine AW.aload dL_isSet_10 rfl ?_
      refine AW.iconst dL_isSet_12 (by decide) ?_
      refine AW.iload dL_isSet_13 rfl ?_
      refine AW.imulB dL_isSet_15 (by omega) ?_
      refine AW.aldIE dL_isSet_16 J.T.a6 (by omega) (by omega) (by exact hIx (by omega) (R.y0.trans hw)) ?_
      refine AW.iload dL_isSet_17 rfl ?_
      refine AW.callS (as := [vq _, vq _, vi _, vi _]) dL_isSet_19 rfl rfl rfl okL_find lkL_123 rfl rfl rfl (leb (by omega)) (leb (by omega)) rfl (kL_find J.T V.s K (a := w) (by omega) (by omega) (AW.k1 ?_))
      refine AW.top (y := -1) hf ?_
      refine AW.goto (tgt := 26) dL_isSet_22 rfl ?_
      refine AW.istore dL_isSet_26 rfl ?_
      refine AW.iload dL_isSet_28 rfl ?_
      refine AW.if_geF (tgt := 37) dL_isSet_30 rfl (by omega) ?_
      refine AW.iconst dL_isSet_33 (by decide) ?_
      refine AW.goto (tgt := 69) dL_isSet_34 rfl ?_
      refine AW.istore dL_isSet_69 rfl ?_
      refine AW.iload dL_isSet_71 rfl ?_
      refine AW.if_ltT (tgt := 108) dL_isSet_73 rfl (by omega) ?_
      refine AW.pcs (pc2 := 108) rfl ?_
      refine AW.iconst dL_isSet_108 (by decide) ?_
      refine AW.istore dL_isSet_109 rfl ?_
      refine AW.iload dL_isSet_111 rfl ?_
      refine AW.if_geF (tgt := 122) dL_isSet_113 rfl (by omega) ?_
      refine AW.sipush dL_isSet_116 sp_m300 (by decide) ?_
      refine AW.goto (tgt := 144) dL_isSet_119 rfl ?_
      refine AW.istore dL_isSet_144 rfl ?_
      refine AW.iload dL_isSet_146 rfl ?_
      refine AW.if_eqT (tgt := 217) dL_isSet_148 rfl (by omega) ?_
      refine AW.aload_n dL_isSet_217 rfl ?_
      refine AW.bipush dL_isSet_218 bp_8 (by decide) ?_
      refine AW.iload dL_isSet_220 rfl ?_
      refine AW.iload dL_isSet_222 rfl ?_
      refine AW.iload dL_isSet_224 rfl ?_
      refine AW.iconst dL_isSet_226 (by decide) ?_
      refine AW.iconst dL_isSet_227 (by decide) ?_
      refine AW.callSH (as := [vq _, vi _, vi _, vi _, vi _, vi _, vi _]) dL_isSet_228 rfl rfl rfl okL_does lkL_149 rfl rfl rfl (by omega) (by omega) rfl (q_set J hc (fun _ => (AW.k1 ?_)) (fun z => absurd zin' z) (fun z => absurd zin' z))
      refine AW.iload dL_isSet_231 rfl ?_
      refine AW.icmp_neF (tgt := 240) dL_isSet_233 rfl (by rfl) ?_
      refine AW.iconst dL_isSet_236 (by decide) ?_
      refine AW.goto (tgt := 241) dL_isSet_237 rfl ?_
      refine AW.zret dL_isSet_241 rfl ?_ ?_
      · omega
      exact k _ _ c (by omega) J V
    · obtain ⟨f, ef⟩ := Int.eq_ofNat_of_zero_le (show 0 ≤ zfind Z 0 (w : Int) n by omega)
      have zin' : zinR Z (r : Int) n = (f : Int) := zin.trans ef
      have hf2 : (f : Int) < Z 2 0 := by omega
      have kd0 := K.kd (f := f) hf2
      obtain ⟨fd1, fd2⟩ := f_div K (f := f) hf2
      have hp : ¬ Z 5 (48 * w + f) = -1 := by
        have q := zf_x (Z := Z) (a := w) (n := n) hf
        rw [ef, Int.toNat_natCast] at q
        omega
      have zs := zcSok_n (Z := Z) (x := x) h20 hw zin'
      have zm := zmost_b (Z 3 f)
      have sR : ((0 ≤ x ∧ x ≤ zmost (Z 3 f)) ∨ (x = -1 ∧ Z 6 (48 * w + f) = 0)) → AW mL_isSet fL_isSet loL_isSet 10 60 Q 10 60 111 h ((12, vi 1) :: (11, vi (zmost (Z 3 f))) :: lse (f : Int) (r : Int) n x) [] := by
        intro ok
        have T1 : LT (sI h (la 5) (10 * r + f) x) := (FL.rf.wI (P := fun j => j = 5) rfl : FL (fun j => j = 5) h (sI h (la 5) (10 * r + f) x)).T J.T
        refine AW.iload dL_isSet_111 rfl ?_
        refine AW.if_geT (tgt := 122) dL_isSet_113 rfl (by omega) ?_
        refine AW.iload dL_isSet_122 rfl ?_
        refine AW.if_eqF (tgt := 141) dL_isSet_124 rfl (by omega) ?_
        refine AW.aload dL_isSet_127 rfl ?_
        refine AW.bipush dL_isSet_129 bp_10 (by decide) ?_
        refine AW.iload dL_isSet_131 rfl ?_
        refine AW.imulB dL_isSet_133 (by omega) ?_
        refine AW.iload dL_isSet_134 rfl ?_
        refine AW.iaddB dL_isSet_136 (by omega) ?_
        refine AW.aldIE dL_isSet_137 J.T.a5 (by omega) (by omega) (by exact hIx (by omega) (R.x (k := f) (by omega))) ?_
        refine AW.goto (tgt := 144) dL_isSet_138 rfl ?_
        refine AW.istore dL_isSet_144 rfl ?_
        refine AW.iload dL_isSet_146 rfl ?_
        refine AW.if_eqF (tgt := 217) dL_isSet_148 rfl (by omega) ?_
        refine AW.aload dL_isSet_151 rfl ?_
        refine AW.bipush dL_isSet_153 bp_10 (by decide) ?_
        refine AW.iload dL_isSet_155 rfl ?_
        refine AW.imulB dL_isSet_157 (by omega) ?_
        refine AW.iload dL_isSet_158 rfl ?_
        refine AW.iaddB dL_isSet_160 (by omega) ?_
        refine AW.iload dL_isSet_161 rfl ?_
        refine AW.astI dL_isSet_163 J.T.a5 (by omega) (by omega) ?_
        rw [show (10 * (r : Int) + (f : Int)).toNat = 10 * r + f by omega]
        refine AW.pcs (pc2 := 164) rfl ?_
        refine AW.iconst dL_isSet_164 (by decide) ?_
        refine AW.istore dL_isSet_165 rfl ?_
        refine AW.locs ((14, vi ((0 : Nat) : Int)) :: (13, vi (Z 22 (48 * r + f))) :: lse (f : Int) (r : Int) n x) ⟨rfl, rfl, rfl, rfl, rfl, rfl, rfl, rfl, rfl, rfl, rfl, rfl, rfl, trivial⟩ (set_lp T1 V.g3 V.b3 (by omega) (fun G F => ?_) 3 0 _ (by have := V.b3; omega) (by have := V.b3; omega) FLG.z)
        have F1 : FL (fun j => j = 5 ∨ j = 8) h G := (FL.rf.wI (Or.inl rfl) : FL (fun j => j = 5 ∨ j = 8) h (sI h (la 5) (10 * r + f) x)).tr (F.1.mo (fun j e => Or.inr e))
        refine AW.aload_n dL_isSet_217 rfl ?_
        refine AW.bipush dL_isSet_218 bp_8 (by decide) ?_
        refine AW.iload dL_isSet_220 rfl ?_
        refine AW.iload dL_isSet_222 rfl ?_
        refine AW.iload dL_isSet_224 rfl ?_
        refine AW.iconst dL_isSet_226 (by decide) ?_
        refine AW.iconst dL_isSet_227 (by decide) ?_
        refine AW.callSH (as := [vq _, vi _, vi _, vi _, vi _, vi _, vi _]) dL_isSet_228 rfl rfl rfl okL_does lkL_149 rfl rfl rfl (by omega) (by omega) rfl (q_set (J.fl F1) hc (fun z => absurd (zin'.symm.trans z) (by omega)) (fun _ z => absurd z (zs.mpr ok)) (fun _ _ g S I Fr => (AW.k1 ?_)))
        refine AW.top (y := Z 22 (48 * r + f)) (by rw [zin']; exact congrArg (Z 22) (by omega)) ?_
        refine AW.iload dL_isSet_231 rfl ?_
        refine AW.icmp_neF (tgt := 240) dL_isSet_233 rfl (by rfl) ?_
        refine AW.iconst dL_isSet_236 (by decide) ?_
        refine AW.goto (tgt := 241) dL_isSet_237 rfl ?_
        refine AW.zret dL_isSet_241 rfl ?_ ?_
        · omega
        have q := set_go J V hr zin' hf2 (by omega) rfl (Z 28 0).toNat (by omega) F S I Fr
        exact k _ _ (c + 1) (by omega) q.1 q.2
      have sN : ¬ ((0 ≤ x ∧ x ≤ zmost (Z 3 f)) ∨ (x = -1 ∧ Z 6 (48 * w + f) = 0)) → AW mL_isSet fL_isSet loL_isSet 10 60 Q 10 60 111 h ((12, vi 0) :: (11, vi (zmost (Z 3 f))) :: lse (f : Int) (r : Int) n x) [] := by
        intro ok
        refine AW.iload dL_isSet_111 rfl ?_
        refine AW.if_geT (tgt := 122) dL_isSet_113 rfl (by omega) ?_
        refine AW.iload dL_isSet_122 rfl ?_
        refine AW.if_eqT (tgt := 141) dL_isSet_124 rfl (by omega) ?_
        refine AW.sipush dL_isSet_141 sp_m200 (by decide) ?_
        refine AW.istore dL_isSet_144 rfl ?_
        refine AW.iload dL_isSet_146 rfl ?_
        refine AW.if_eqT (tgt := 217) dL_isSet_148 rfl (by omega) ?_
        refine AW.aload_n dL_isSet_217 rfl ?_
        refine AW.bipush dL_isSet_218 bp_8 (by decide) ?_
        refine AW.iload dL_isSet_220 rfl ?_
        refine AW.iload dL_isSet_222 rfl ?_
        refine AW.iload dL_isSet_224 rfl ?_
        refine AW.iconst dL_isSet_226 (by decide) ?_
        refine AW.iconst dL_isSet_227 (by decide) ?_
        refine AW.callSH (as := [vq _, vi _, vi _, vi _, vi _, vi _, vi _]) dL_isSet_228 rfl rfl rfl okL_does lkL_149 rfl rfl rfl (by omega) (by omega) rfl (q_set J hc (fun z => absurd (zin'.symm.trans z) (by omega)) (fun _ _ => (AW.k1 ?_)) (fun _ z => absurd (zs.mp z) ok))
        refine AW.iload dL_isSet_231 rfl ?_
        refine AW.icmp_neF (tgt := 240) dL_isSet_233 rfl (by rfl) ?_
        refine AW.iconst dL_isSet_236 (by decide) ?_
        refine AW.goto (tgt := 241) dL_isSet_237 rfl ?_
        refine AW.zret dL_isSet_241 rfl ?_ ?_
        · omega
        exact k _ _ c (by omega) J V
      have s69 : AW mL_isSet fL_isSet loL_isSet 10 60 Q 10 60 69 h (lse (f : Int) (r : Int) n x) [vi (zmost (Z 3 f))] := by
        by_cases x1 : zmost (Z 3 f) < x
        · refine AW.istore dL_isSet_69 rfl ?_
          refine AW.iload dL_isSet_71 rfl ?_
          refine AW.if_ltF (tgt := 108) dL_isSet_73 rfl (by omega) ?_
          refine AW.iload dL_isSet_76 rfl ?_
          refine AW.iload dL_isSet_78 rfl ?_
          refine AW.icmp_gtT (tgt := 108) dL_isSet_80 rfl (by omega) ?_
          refine AW.iconst dL_isSet_108 (by decide) ?_
          refine AW.istore dL_isSet_109 rfl ?_
          exact sN (by omega)
        · by_cases x0 : 0 ≤ x
          · refine AW.istore dL_isSet_69 rfl ?_
            refine AW.iload dL_isSet_71 rfl ?_
            refine AW.if_ltF (tgt := 108) dL_isSet_73 rfl (by omega) ?_
            refine AW.iload dL_isSet_76 rfl ?_
            refine AW.iload dL_isSet_78 rfl ?_
            refine AW.icmp_gtF (tgt := 108) dL_isSet_80 rfl (by omega) ?_
            refine AW.iload dL_isSet_83 rfl ?_
            refine AW.if_geT (tgt := 104) dL_isSet_85 rfl (by omega) ?_
            refine AW.iconst dL_isSet_104 (by decide) ?_
            refine AW.goto (tgt := 109) dL_isSet_105 rfl ?_
            refine AW.istore dL_isSet_109 rfl ?_
            exact sR (by omega)
          · by_cases e6 : Z 6 (48 * w + f) = 0
            · have eB : bz (¬ Z 5 (48 * w + f) = -1 ∧ ¬ Z 6 (48 * w + f) = 0) = 0 := bz_0.mpr (fun z => z.2 e6)
              refine AW.istore dL_isSet_69 rfl ?_
              refine AW.iload dL_isSet_71 rfl ?_
              refine AW.if_ltF (tgt := 108) dL_isSet_73 rfl (by omega) ?_
              refine AW.iload dL_isSet_76 rfl ?_
              refine AW.iload dL_isSet_78 rfl ?_
              refine AW.icmp_gtF (tgt := 108) dL_isSet_80 rfl (by omega) ?_
              refine AW.iload dL_isSet_83 rfl ?_
              refine AW.if_geF (tgt := 104) dL_isSet_85 rfl (by omega) ?_
              refine AW.aload_n dL_isSet_88 rfl ?_
              refine AW.aload dL_isSet_89 rfl ?_
              refine AW.iconst dL_isSet_91 (by decide) ?_
              refine AW.iload dL_isSet_92 rfl ?_
              refine AW.imulB dL_isSet_94 (by omega) ?_
              refine AW.aldIE dL_isSet_95 J.T.a6 (by omega) (by omega) (by exact hIx (by omega) (R.y0.trans hw)) ?_
              refine AW.iload dL_isSet_96 rfl ?_
              refine AW.callS (as := [vq _, vi _, vi _]) dL_isSet_98 rfl rfl rfl okL_isNeeded lkL_103 rfl rfl rfl (leb (by omega)) (leb (by omega)) rfl (kL_isNd J.T V.s K (v := w) (f := f) (by omega) (by omega) (AW.k1 ?_))
              refine AW.top (y := 0) eB ?_
              refine AW.if_neF (tgt := 108) dL_isSet_101 rfl (by decide) ?_
              refine AW.iconst dL_isSet_104 (by decide) ?_
              refine AW.goto (tgt := 109) dL_isSet_105 rfl ?_
              refine AW.istore dL_isSet_109 rfl ?_
              exact sR (by omega)
            · have eB : bz (¬ Z 5 (48 * w + f) = -1 ∧ ¬ Z 6 (48 * w + f) = 0) = 1 := bz_1.mpr ⟨hp, e6⟩
              refine AW.istore dL_isSet_69 rfl ?_
              refine AW.iload dL_isSet_71 rfl ?_
              refine AW.if_ltF (tgt := 108) dL_isSet_73 rfl (by omega) ?_
              refine AW.iload dL_isSet_76 rfl ?_
              refine AW.iload dL_isSet_78 rfl ?_
              refine AW.icmp_gtF (tgt := 108) dL_isSet_80 rfl (by omega) ?_
              refine AW.iload dL_isSet_83 rfl ?_
              refine AW.if_geF (tgt := 104) dL_isSet_85 rfl (by omega) ?_
              refine AW.aload_n dL_isSet_88 rfl ?_
              refine AW.aload dL_isSet_89 rfl ?_
              refine AW.iconst dL_isSet_91 (by decide) ?_
              refine AW.iload dL_isSet_92 rfl ?_
              refine AW.imulB dL_isSet_94 (by omega) ?_
              refine AW.aldIE dL_isSet_95 J.T.a6 (by omega) (by omega) (by exact hIx (by omega) (R.y0.trans hw)) ?_
              refine AW.iload dL_isSet_96 rfl ?_
              refine AW.callS (as := [vq _, vi _, vi _]) dL_isSet_98 rfl rfl rfl okL_isNeeded lkL_103 rfl rfl rfl (leb (by omega)) (leb (by omega)) rfl (kL_isNd J.T V.s K (v := w) (f := f) (by omega) (by omega) (AW.k1 ?_))
              refine AW.top (y := 1) eB ?_
              refine AW.if_neT (tgt := 108) dL_isSet_101 rfl (by decide) ?_
              refine AW.iconst dL_isSet_108 (by decide) ?_
              refine AW.istore dL_isSet_109 rfl ?_
              exact sN (by omega)
      have s28 : AW mL_isSet fL_isSet loL_isSet 10 60 Q 10 60 28 h (lse (f : Int) (r : Int) n x) [] := by
        have c3 : Z 3 f = 0 ∨ Z 3 f = 1 ∨ Z 3 f = 2 := by omega
        rcases c3 with c3 | c3 | c3
        · refine AW.iload dL_isSet_28 rfl ?_
          refine AW.if_geT (tgt := 37) dL_isSet_30 rfl (by omega) ?_
          refine AW.aload_n dL_isSet_37 rfl ?_
          refine AW.iload dL_isSet_38 rfl ?_
          refine AW.aldIE dL_isSet_40 J.T.a3 (by omega) (by omega) (by exact V.s.f (f := f) hf2) ?_
          refine AW.iconst dL_isSet_41 (by decide) ?_
          refine AW.irem dL_isSet_42 (by omega) ?_
          refine AW.top fd2 ?_
          refine AW.if_neF (tgt := 52) dL_isSet_43 rfl (by exact c3) ?_
          refine AW.sipush dL_isSet_46 sp_9999 (by decide) ?_
          refine AW.goto (tgt := 69) dL_isSet_49 rfl ?_
          exact AW.top (y := zmost (Z 3 f)) (by rw [c3]; rfl) s69
        · refine AW.iload dL_isSet_28 rfl ?_
          refine AW.if_geT (tgt := 37) dL_isSet_30 rfl (by omega) ?_
          refine AW.aload_n dL_isSet_37 rfl ?_
          refine AW.iload dL_isSet_38 rfl ?_
          refine AW.aldIE dL_isSet_40 J.T.a3 (by omega) (by omega) (by exact V.s.f (f := f) hf2) ?_
          refine AW.iconst dL_isSet_41 (by decide) ?_
          refine AW.irem dL_isSet_42 (by omega) ?_
          refine AW.top fd2 ?_
          refine AW.if_neT (tgt := 52) dL_isSet_43 rfl (by omega) ?_
          refine AW.aload_n dL_isSet_52 rfl ?_
          refine AW.iload dL_isSet_53 rfl ?_
          refine AW.aldIE dL_isSet_55 J.T.a3 (by omega) (by omega) (by exact V.s.f (f := f) hf2) ?_
          refine AW.iconst dL_isSet_56 (by decide) ?_
          refine AW.irem dL_isSet_57 (by omega) ?_
          refine AW.top fd2 ?_
          refine AW.iconst dL_isSet_58 (by decide) ?_
          refine AW.icmp_neF (tgt := 66) dL_isSet_59 rfl (by exact c3) ?_
          refine AW.iconst dL_isSet_62 (by decide) ?_
          refine AW.goto (tgt := 69) dL_isSet_63 rfl ?_
          exact AW.top (y := zmost (Z 3 f)) (by rw [c3]; rfl) s69
        · refine AW.iload dL_isSet_28 rfl ?_
          refine AW.if_geT (tgt := 37) dL_isSet_30 rfl (by omega) ?_
          refine AW.aload_n dL_isSet_37 rfl ?_
          refine AW.iload dL_isSet_38 rfl ?_
          refine AW.aldIE dL_isSet_40 J.T.a3 (by omega) (by omega) (by exact V.s.f (f := f) hf2) ?_
          refine AW.iconst dL_isSet_41 (by decide) ?_
          refine AW.irem dL_isSet_42 (by omega) ?_
          refine AW.top fd2 ?_
          refine AW.if_neT (tgt := 52) dL_isSet_43 rfl (by omega) ?_
          refine AW.aload_n dL_isSet_52 rfl ?_
          refine AW.iload dL_isSet_53 rfl ?_
          refine AW.aldIE dL_isSet_55 J.T.a3 (by omega) (by omega) (by exact V.s.f (f := f) hf2) ?_
          refine AW.iconst dL_isSet_56 (by decide) ?_
          refine AW.irem dL_isSet_57 (by omega) ?_
          refine AW.top fd2 ?_
          refine AW.iconst dL_isSet_58 (by decide) ?_
          refine AW.icmp_neT (tgt := 66) dL_isSet_59 rfl (by omega) ?_
          refine AW.sipush dL_isSet_66 sp_999 (by decide) ?_
          exact AW.top (y := zmost (Z 3 f)) (by rw [c3]; rfl) s69
      refine AW.iload dL_isSet_0 rfl ?_
      refine AW.aload_n dL_isSet_2 rfl ?_
      refine AW.iconst dL_isSet_3 (by decide) ?_
      refine AW.aldIE dL_isSet_4 J.T.a4 (by omega) (by omega) (by exact V.g2) ?_
      refine AW.icmp_geF (tgt := 25) dL_isSet_5 rfl (by omega) ?_
      refine AW.aload_n dL_isSet_8 rfl ?_
      refine AW.aload_n dL_isSet_9 rfl ?_
      refine AW.aload dL_isSet_10 rfl ?_
      refine AW.iconst dL_isSet_12 (by decide) ?_
      refine AW.iload dL_isSet_13 rfl ?_
      refine AW.imulB dL_isSet_15 (by omega) ?_
      refine AW.aldIE dL_isSet_16 J.T.a6 (by omega) (by omega) (by exact hIx (by omega) (R.y0.trans hw)) ?_
      refine AW.iload dL_isSet_17 rfl ?_
      refine AW.callS (as := [vq _, vq _, vi _, vi _]) dL_isSet_19 rfl rfl rfl okL_find lkL_123 rfl rfl rfl (leb (by omega)) (leb (by omega)) rfl (kL_find J.T V.s K (a := w) (by omega) (by omega) (AW.k1 ?_))
      refine AW.top ef ?_
      refine AW.goto (tgt := 26) dL_isSet_22 rfl ?_
      refine AW.istore dL_isSet_26 rfl ?_
      exact AW.locs (lse (f : Int) (r : Int) n x) ⟨rfl, rfl, rfl, rfl, rfl, rfl, rfl, rfl, rfl, rfl, rfl, trivial⟩ s28
  · have zin' : zinR Z (r : Int) n = -1 := by unfold zinR; rw [if_neg (by omega)]
    refine AW.iload dL_isSet_0 rfl ?_
    refine AW.aload_n dL_isSet_2 rfl ?_
    refine AW.iconst dL_isSet_3 (by decide) ?_
    refine AW.aldIE dL_isSet_4 J.T.a4 (by omega) (by omega) (by exact V.g2) ?_
    refine AW.icmp_geT (tgt := 25) dL_isSet_5 rfl (by omega) ?_
    refine AW.iconst dL_isSet_25 (by decide) ?_
    refine AW.istore dL_isSet_26 rfl ?_
    refine AW.iload dL_isSet_28 rfl ?_
    refine AW.if_geF (tgt := 37) dL_isSet_30 rfl (by omega) ?_
    refine AW.iconst dL_isSet_33 (by decide) ?_
    refine AW.goto (tgt := 69) dL_isSet_34 rfl ?_
    refine AW.istore dL_isSet_69 rfl ?_
    refine AW.iload dL_isSet_71 rfl ?_
    refine AW.if_ltT (tgt := 108) dL_isSet_73 rfl (by omega) ?_
    refine AW.iconst dL_isSet_108 (by decide) ?_
    refine AW.istore dL_isSet_109 rfl ?_
    refine AW.iload dL_isSet_111 rfl ?_
    refine AW.if_geF (tgt := 122) dL_isSet_113 rfl (by omega) ?_
    refine AW.sipush dL_isSet_116 sp_m300 (by decide) ?_
    refine AW.goto (tgt := 144) dL_isSet_119 rfl ?_
    refine AW.istore dL_isSet_144 rfl ?_
    refine AW.iload dL_isSet_146 rfl ?_
    refine AW.if_eqT (tgt := 217) dL_isSet_148 rfl (by omega) ?_
    refine AW.pcs (pc2 := 217) rfl ?_
    refine AW.aload_n dL_isSet_217 rfl ?_
    refine AW.bipush dL_isSet_218 bp_8 (by decide) ?_
    refine AW.iload dL_isSet_220 rfl ?_
    refine AW.iload dL_isSet_222 rfl ?_
    refine AW.iload dL_isSet_224 rfl ?_
    refine AW.iconst dL_isSet_226 (by decide) ?_
    refine AW.iconst dL_isSet_227 (by decide) ?_
    refine AW.callSH (as := [vq _, vi _, vi _, vi _, vi _, vi _, vi _]) dL_isSet_228 rfl rfl rfl okL_does lkL_149 rfl rfl rfl (by omega) (by omega) rfl (q_set J hc (fun _ => (AW.k1 ?_)) (fun z => absurd zin' z) (fun z => absurd zin' z))
    refine AW.iload dL_isSet_231 rfl ?_
    refine AW.icmp_neF (tgt := 240) dL_isSet_233 rfl (by rfl) ?_
    refine AW.iconst dL_isSet_236 (by decide) ?_
    refine AW.goto (tgt := 241) dL_isSet_237 rfl ?_
    refine AW.zret dL_isSet_241 rfl ?_ ?_
    · omega
    exact k _ _ c (by omega) J V
end E2

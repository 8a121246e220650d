/-! ===== the model: split, join ===== -/
section M4
variable {Q : AH → AO → Prop} {h : AH} {Z : ZT}
def zcSpl (Z : ZT) (s n o1 o2 d : Int) : Int := cd3 (zatH Z s n = -1) (¬ ((0 ≤ o1 ∧ o1 ≤ 25) ∧ (0 ≤ o2 ∧ o2 ≤ 25) ∧ ¬ o1 = o2 ∧ 2 ≤ d ∧ d ≤ 100)) (zfre Z s (zatH Z s n) = 0 ∨ (zatH Z s o1 ≠ -1 ∧ zatH Z s o1 ≠ zatH Z s n) ∨ (zatH Z s o2 ≠ -1 ∧ zatH Z s o2 ≠ zatH Z s n))
def zSpl (Z : ZT) (s n o1 o2 d : Int) : ZT :=
  let a := Z 1 s.toNat + 1
  let f := zatH Z s n
  let nf := Z 2 s.toNat
  let p := 24 * s + a
  let v := Z 4 (48 * s + f).toNat
  let nd := Z 6 (48 * (24 * s + Z 1 s.toNat) + f).toNat
  zs (zmak (zs (zmak (zs (zs (zs (zbeg (zs Z 48 0 0) s a nf 3) 5 (48 * (24 * s + a) + f).toNat (-1)) 10 p.toNat d) 8 (2 * p).toNat f) s a nf o1 0 (v.tdiv d) nd) 9 (2 * p).toNat nf) s a (nf + 1) o2 0 (v.tmod d) nd) 9 (2 * p + 1).toNat (nf + 1)
set_option maxHeartbeats 2000000 in
theorem kX8_split {s n o1 o2 d : Int} (W : WfM h) (B : BS Z) (F : BF Z) (hlow : ∀ s : Nat, s < 4 → Z 2 s ≤ 2 * Z 1 s) (kE : 0 < zcSpl Z s n o1 o2 d → Q (mput h (zs Z 48 0 (zcSpl Z s n o1 o2 d))) (.inl (some (vi 0)))) (kO : zcSpl Z s n o1 o2 d = 0 → Q (mput h (zSpl Z s n o1 o2 d)) (.inl (some (vi (Z 2 s.toNat))))) :
    AC mX8_split fX8_split loX8_split 0 0 (mput h Z) [vr mO, vi s, vi n, vi o1, vi o2, vi d] Q := by
  have B0 := B.1
  have hR := zatH_rng B (s := s) (n := n)
  refine AC.mk (by decide) (Nat.le_of_ble_eq_true rfl) ?_
  refine AW.aload_n dX8_split_0 rfl ?_
  refine AW.iload_n dX8_split_1 rfl ?_
  refine AW.iload_n dX8_split_2 rfl ?_
  refine AW.callV (as := [vi _, vi _]) dX8_split_3 rfl rfl rfl okX8_atHead lkX8_169 W.1 rfl rfl rfl rfl rfl rfl rfl (kX8_atHead W (by assumption) (AW.k1 ?_))
  refine AW.istore dX8_split_6 rfl ?_
  refine AW.iload_n dX8_split_8 rfl ?_
  refine AW.callS (as := [vi _]) dX8_split_9 rfl rfl rfl okX8_isName lkX8_148 rfl rfl rfl rfl rfl rfl (kX8_isName  (AW.k1 ?_))
  refine' AW.if_eqJ 45 (tgt := 44) dX8_split_12 rfl _ _ _
  rotate_left 2
  · intro c_12 k_12
    refine AW.iconst dX8_split_44 (by decide) ?_
    exact k_12
  · intro c_12 k_12
    refine AW.iload dX8_split_15 rfl ?_
    refine AW.callS (as := [vi _]) dX8_split_17 rfl rfl rfl okX8_isName lkX8_148 rfl rfl rfl rfl rfl rfl (kX8_isName  (AW.k1 ?_))
    refine' AW.if_eqJ 45 (tgt := 44) dX8_split_20 rfl _ _ _
    rotate_left 2
    · intro c_20 k_20
      refine AW.iconst dX8_split_44 (by decide) ?_
      exact k_20
    · intro c_20 k_20
      refine AW.iload_n dX8_split_23 rfl ?_
      refine AW.iload dX8_split_24 rfl ?_
      refine' AW.icmp_eqJ 45 (tgt := 44) dX8_split_26 rfl _ _ _
      rotate_left 2
      · intro c_26 k_26
        refine AW.iconst dX8_split_44 (by decide) ?_
        exact k_26
      · intro c_26 k_26
        refine AW.iload dX8_split_29 rfl ?_
        refine AW.iconst dX8_split_31 (by decide) ?_
        refine AW.bipush dX8_split_32 bp_100 (by decide) ?_
        refine AW.callS (as := [vi _, vi _, vi _]) dX8_split_34 rfl rfl rfl okX8_lies lkX8_144 rfl rfl rfl rfl rfl rfl (kX8_lies  (AW.k1 ?_))
        refine' AW.if_eqJ 45 (tgt := 44) dX8_split_37 rfl _ _ _
        rotate_left 2
        · intro c_37 k_37
          refine AW.iconst dX8_split_44 (by decide) ?_
          exact k_37
        · intro c_37 k_37
          refine AW.iconst dX8_split_40 (by decide) ?_
          refine AW.goto (tgt := 45) dX8_split_41 rfl ?_
          exact k_37
        exact k_26
      exact k_20
    exact k_12
  refine AW.top (y := bz ((0 ≤ o1 ∧ o1 ≤ 25) ∧ (0 ≤ o2 ∧ o2 ≤ 25) ∧ ¬ o1 = o2 ∧ 2 ≤ d ∧ d ≤ 100)) (by simp only [bz_0]; unfold bz; (repeat' split) <;> simp_all) ?_
  refine AW.istore dX8_split_45 rfl ?_
  refine AW.iload dX8_split_47 rfl ?_
  refine AW.iconst dX8_split_49 (by decide) ?_
  refine' AW.icmp_eqJ 104 (tgt := 103) dX8_split_50 rfl _ _ _
  rotate_left 2
  · intro c_50 k_50
    refine AW.iconst dX8_split_103 (by decide) ?_
    exact k_50
  · intro c_50 k_50
    have hR2 := hR.resolve_left c_50
    refine AW.iload dX8_split_53 rfl ?_
    refine' AW.if_eqJ 104 (tgt := 103) dX8_split_55 rfl _ _ _
    rotate_left 2
    · intro c_55 k_55
      refine AW.iconst dX8_split_103 (by decide) ?_
      exact k_55
    · intro c_55 k_55
      refine AW.aload_n dX8_split_58 rfl ?_
      refine AW.iload_n dX8_split_59 rfl ?_
      refine AW.iload dX8_split_60 rfl ?_
      refine AW.callV (as := [vi _, vi _]) dX8_split_62 rfl rfl rfl okX8_isFree lkX8_194 W.1 rfl rfl rfl rfl rfl rfl rfl (kX8_isFree W (by assumption) (by omega) (by omega) (AW.k1 ?_))
      refine' AW.if_eqJ 104 (tgt := 103) dX8_split_65 rfl _ _ _
      rotate_left 2
      · intro c_65 k_65
        refine AW.iconst dX8_split_103 (by decide) ?_
        exact k_65
      · intro c_65 k_65
        refine AW.aload_n dX8_split_68 rfl ?_
        refine AW.aload_n dX8_split_69 rfl ?_
        refine AW.iload_n dX8_split_70 rfl ?_
        refine AW.iload_n dX8_split_71 rfl ?_
        refine AW.callV (as := [vi _, vi _]) dX8_split_72 rfl rfl rfl okX8_atHead lkX8_169 W.1 rfl rfl rfl rfl rfl rfl rfl (kX8_atHead W (by assumption) (AW.k1 ?_))
        refine AW.iload dX8_split_75 rfl ?_
        refine AW.callV (as := [vi _, vi _]) dX8_split_77 rfl rfl rfl okX8_isOther lkX8_197 W.1 rfl rfl rfl rfl rfl rfl rfl (kX8_isOther  (AW.k1 ?_))
        refine' AW.if_neJ 104 (tgt := 103) dX8_split_80 rfl _ _ _
        rotate_left 2
        · intro c_80 k_80
          refine AW.iconst dX8_split_103 (by decide) ?_
          exact k_80
        · intro c_80 k_80
          refine AW.aload_n dX8_split_83 rfl ?_
          refine AW.aload_n dX8_split_84 rfl ?_
          refine AW.iload_n dX8_split_85 rfl ?_
          refine AW.iload dX8_split_86 rfl ?_
          refine AW.callV (as := [vi _, vi _]) dX8_split_88 rfl rfl rfl okX8_atHead lkX8_169 W.1 rfl rfl rfl rfl rfl rfl rfl (kX8_atHead W (by assumption) (AW.k1 ?_))
          refine AW.iload dX8_split_91 rfl ?_
          refine AW.callV (as := [vi _, vi _]) dX8_split_93 rfl rfl rfl okX8_isOther lkX8_197 W.1 rfl rfl rfl rfl rfl rfl rfl (kX8_isOther  (AW.k1 ?_))
          refine' AW.if_neJ 104 (tgt := 103) dX8_split_96 rfl _ _ _
          rotate_left 2
          · intro c_96 k_96
            refine AW.iconst dX8_split_103 (by decide) ?_
            exact k_96
          · intro c_96 k_96
            refine AW.iconst dX8_split_99 (by decide) ?_
            refine AW.goto (tgt := 104) dX8_split_100 rfl ?_
            exact k_96
          exact k_80
        exact k_65
      exact k_55
    exact k_50
  refine AW.top (y := bz (¬ zatH Z s n = -1 ∧ ((0 ≤ o1 ∧ o1 ≤ 25) ∧ (0 ≤ o2 ∧ o2 ≤ 25) ∧ ¬ o1 = o2 ∧ 2 ≤ d ∧ d ≤ 100) ∧ ¬ zfre Z s (zatH Z s n) = 0 ∧ ¬ (zatH Z s o1 ≠ -1 ∧ zatH Z s o1 ≠ zatH Z s n) ∧ ¬ (zatH Z s o2 ≠ -1 ∧ zatH Z s o2 ≠ zatH Z s n))) (by simp only [bz_0]; unfold bz; (repeat' split) <;> simp_all) ?_
  refine AW.istore dX8_split_104 rfl ?_
  refine AW.aload_n dX8_split_106 rfl ?_
  refine AW.iload dX8_split_107 rfl ?_
  refine AW.iconst dX8_split_109 (by decide) ?_
  refine' AW.icmp_neJ 136 (tgt := 117) dX8_split_110 rfl _ _ _
  rotate_left 2
  · intro c_110 k_110
    refine AW.iload dX8_split_117 rfl ?_
    refine' AW.if_neJ 136 (tgt := 126) dX8_split_119 rfl _ _ _
    rotate_left 2
    · intro c_119 k_119
      refine AW.iload dX8_split_126 rfl ?_
      refine' AW.if_eqJ 136 (tgt := 135) dX8_split_128 rfl _ _ _
      rotate_left 2
      · intro c_128 k_128
        refine AW.iconst dX8_split_135 (by decide) ?_
        exact k_128
      · intro c_128 k_128
        refine AW.iconst dX8_split_131 (by decide) ?_
        refine AW.goto (tgt := 136) dX8_split_132 rfl ?_
        exact k_128
      exact k_119
    · intro c_119 k_119
      refine AW.iconst dX8_split_122 (by decide) ?_
      refine AW.goto (tgt := 136) dX8_split_123 rfl ?_
      exact k_119
    exact k_110
  · intro c_110 k_110
    refine AW.iconst dX8_split_113 (by decide) ?_
    refine AW.goto (tgt := 136) dX8_split_114 rfl ?_
    exact k_110
  refine AW.top (y := zcSpl Z s n o1 o2 d) (by clear hR; unfold zcSpl cd3; simp only [bz_0, Classical.not_not]; (repeat' split) <;> first | (simp_all; done) | grind) ?_
  refine AW.callV (as := [vi _]) dX8_split_136 rfl rfl rfl okX8_fails lkX8_162 W.1 rfl rfl rfl rfl rfl rfl rfl (kX8_fails W (AW.k1 ?_))
  refine AW.if_eq (tgt := 144) dX8_split_139 rfl (fun c_139 => ?_) (fun c_139 => ?_)
  · have c := bz_0.mp c_139
    have e : zcSpl Z s n o1 o2 d = 0 := by unfold zcSpl cd3 at *; (repeat' split at c) <;> omega
    obtain ⟨c1, c2, c3⟩ := cd3_0.mp c
    have hR := hR.resolve_left c1
    have b := B.2 s.toNat (by omega)
    have b2 := hlow s.toNat (by omega)
    rw [Classical.not_not] at c2
    have c4 : Z 1 s.toNat < 23 := by have q : ¬ zfre Z s (zatH Z s n) = 0 := fun w => c3 (Or.inl w); unfold zfre at q; have q2 := bz_n0.mp q; omega
    rw [e]
    refine AW.aload_n dX8_split_144 rfl ?_
    refine AW.mA 4 W dX8_split_145 lkX8_19 rfl rfl ?_
    refine AW.bipush dX8_split_148 bp_48 (by decide) ?_
    refine AW.iload_n dX8_split_150 rfl ?_
    refine AW.imulB dX8_split_151 (by omega) ?_
    refine AW.iload dX8_split_152 rfl ?_
    refine AW.iaddB dX8_split_154 (by omega) ?_
    refine AW.mldE (j := 4) W dX8_split_155 rfl rfl (by simp only [mlen]; omega) (by (repeat first | apply zs_ne rfl | apply zs_eq (by omega) | apply zs_miss (by omega) | apply zbeg_o rfl | apply zbeg_h | apply zcp_o rfl | apply zmak_o rfl | apply zmak_2); exact rfl) ?_
    refine AW.istore dX8_split_156 rfl ?_
    refine AW.aload_n dX8_split_158 rfl ?_
    refine AW.mA 6 W dX8_split_159 lkX8_25 rfl rfl ?_
    refine AW.iload_n dX8_split_162 rfl ?_
    refine AW.aload_n dX8_split_163 rfl ?_
    refine AW.mA 1 W dX8_split_164 lkX8_7 rfl rfl ?_
    refine AW.iload_n dX8_split_167 rfl ?_
    refine AW.mldE (j := 1) W dX8_split_168 rfl rfl (by simp only [mlen]; omega) (by (repeat first | apply zs_ne rfl | apply zs_eq (by omega) | apply zs_miss (by omega) | apply zbeg_o rfl | apply zbeg_h | apply zcp_o rfl | apply zmak_o rfl | apply zmak_2); exact rfl) ?_
    refine AW.iload dX8_split_169 rfl ?_
    refine AW.callS (as := [vi _, vi _, vi _]) dX8_split_171 rfl rfl rfl okX8_place lkX8_152 rfl rfl rfl rfl rfl rfl (kX8_place (by omega) (AW.k1 ?_))
    refine AW.mldZE (j := 6) W dX8_split_174 rfl rfl (by simp only [mlen]; omega) (by (repeat first | apply zs_ne rfl | apply zs_eq (by omega) | apply zs_miss (by omega) | apply zbeg_o rfl | apply zbeg_h | apply zcp_o rfl | apply zmak_o rfl | apply zmak_2); exact rfl) ?_
    refine AW.istore dX8_split_175 rfl ?_
    refine AW.aload_n dX8_split_177 rfl ?_
    refine AW.iload_n dX8_split_178 rfl ?_
    refine AW.iconst dX8_split_179 (by decide) ?_
    refine AW.pcs (pc2 := 180) rfl ?_
    refine AW.callV (as := [vi _, vi _]) dX8_split_180 rfl rfl rfl okX8_begins lkX8_176 W.1 rfl rfl rfl rfl rfl rfl rfl (kX8_begins (a := Z 1 s.toNat + 1) (f := Z 2 s.toNat) W (by omega) (by (repeat first | apply zs_ne rfl | apply zs_eq (by omega) | apply zs_miss (by omega) | apply zbeg_o rfl | apply zbeg_h | apply zcp_o rfl | apply zmak_o rfl | apply zmak_2); first | exact rfl | assumption | omega) (by (repeat first | apply zs_ne rfl | apply zs_eq (by omega) | apply zs_miss (by omega) | apply zbeg_o rfl | apply zbeg_h | apply zcp_o rfl | apply zmak_o rfl | apply zmak_2); first | exact rfl | assumption | omega) (by omega) (by omega) (zsF F) (AW.k1 ?_))
    refine AW.istore dX8_split_183 rfl ?_
    refine AW.aload_n dX8_split_185 rfl ?_
    refine AW.iload_n dX8_split_186 rfl ?_
    refine AW.iload dX8_split_187 rfl ?_
    refine AW.callV (as := [vi _, vi _]) dX8_split_189 rfl rfl rfl okX8_ends lkX8_187 W.1 rfl rfl rfl rfl rfl rfl rfl (kX8_ends (a := Z 1 s.toNat + 1) W (by omega) (by (repeat first | apply zs_ne rfl | apply zs_eq (by omega) | apply zs_miss (by omega) | apply zbeg_o rfl | apply zbeg_h | apply zcp_o rfl | apply zmak_o rfl | apply zmak_2); first | exact rfl | assumption | omega) (by omega) (by omega) (AW.k0 ?_))
    refine AW.aload_n dX8_split_192 rfl ?_
    refine AW.mA 10 W dX8_split_193 lkX8_38 rfl rfl ?_
    refine AW.iload dX8_split_196 rfl ?_
    refine AW.iload dX8_split_198 rfl ?_
    refine AW.mst (j := 10) W dX8_split_200 rfl rfl (by simp only [mlen]; omega) ?_
    refine AW.aload_n dX8_split_201 rfl ?_
    refine AW.mA 8 W dX8_split_202 lkX8_32 rfl rfl ?_
    refine AW.iconst dX8_split_205 (by decide) ?_
    refine AW.iload dX8_split_206 rfl ?_
    refine AW.imulB dX8_split_208 (by omega) ?_
    refine AW.iload dX8_split_209 rfl ?_
    refine AW.mst (j := 8) W dX8_split_211 rfl rfl (by simp only [mlen]; omega) ?_
    refine AW.aload_n dX8_split_212 rfl ?_
    refine AW.mA 9 W dX8_split_213 lkX8_35 rfl rfl ?_
    refine AW.iconst dX8_split_216 (by decide) ?_
    refine AW.iload dX8_split_217 rfl ?_
    refine AW.imulB dX8_split_219 (by omega) ?_
    refine AW.aload_n dX8_split_220 rfl ?_
    refine AW.pcs (pc2 := 221) rfl ?_
    refine AW.iload_n dX8_split_221 rfl ?_
    refine AW.iload_n dX8_split_222 rfl ?_
    refine AW.iconst dX8_split_223 (by decide) ?_
    refine AW.iload dX8_split_224 rfl ?_
    refine AW.iload dX8_split_226 rfl ?_
    refine AW.idiv dX8_split_228 (by omega) ?_
    refine AW.iload dX8_split_229 rfl ?_
    refine AW.callV (as := [vi _, vi _, vi _, vi _, vi _]) dX8_split_231 rfl rfl rfl okX8_makes lkX8_179 W.1 rfl rfl rfl rfl rfl rfl rfl (kX8_makes (a := Z 1 s.toNat + 1) (f := Z 2 s.toNat) W (by omega) (by (repeat first | apply zs_ne rfl | apply zs_eq (by omega) | apply zs_miss (by omega) | apply zbeg_o rfl | apply zbeg_h | apply zcp_o rfl | apply zmak_o rfl | apply zmak_2); first | exact rfl | assumption | omega) (by (repeat first | apply zs_ne rfl | apply zs_eq (by omega) | apply zs_miss (by omega) | apply zbeg_o rfl | apply zbeg_h | apply zcp_o rfl | apply zmak_o rfl | apply zmak_2); first | exact rfl | assumption | omega) (by omega) (by omega) (F 6 rfl _) (AW.k1 ?_))
    refine AW.mst (j := 9) W dX8_split_234 rfl rfl (by simp only [mlen]; omega) ?_
    refine AW.aload_n dX8_split_235 rfl ?_
    refine AW.mA 9 W dX8_split_236 lkX8_35 rfl rfl ?_
    refine AW.iconst dX8_split_239 (by decide) ?_
    refine AW.iload dX8_split_240 rfl ?_
    refine AW.imulB dX8_split_242 (by omega) ?_
    refine AW.iconst dX8_split_243 (by decide) ?_
    refine AW.iaddB dX8_split_244 (by omega) ?_
    refine AW.aload_n dX8_split_245 rfl ?_
    refine AW.iload_n dX8_split_246 rfl ?_
    refine AW.iload dX8_split_247 rfl ?_
    refine AW.iconst dX8_split_249 (by decide) ?_
    refine AW.iload dX8_split_250 rfl ?_
    refine AW.iload dX8_split_252 rfl ?_
    refine AW.irem dX8_split_254 (by omega) ?_
    refine AW.iload dX8_split_255 rfl ?_
    refine AW.pcs (pc2 := 257) rfl ?_
    refine AW.callV (as := [vi _, vi _, vi _, vi _, vi _]) dX8_split_257 rfl rfl rfl okX8_makes lkX8_179 W.1 rfl rfl rfl rfl rfl rfl rfl (kX8_makes (a := Z 1 s.toNat + 1) (f := Z 2 s.toNat + 1) W (by omega) (by (repeat first | apply zs_ne rfl | apply zs_eq (by omega) | apply zs_miss (by omega) | apply zbeg_o rfl | apply zbeg_h | apply zcp_o rfl | apply zmak_o rfl | apply zmak_2); first | exact rfl | assumption | omega) (by (repeat first | apply zs_ne rfl | apply zs_eq (by omega) | apply zs_miss (by omega) | apply zbeg_o rfl | apply zbeg_h | apply zcp_o rfl | apply zmak_o rfl | apply zmak_2); first | exact rfl | assumption | omega) (by omega) (by omega) (F 6 rfl _) (AW.k1 ?_))
    refine AW.mst (j := 9) W dX8_split_260 rfl rfl (by simp only [mlen]; omega) ?_
    refine AW.aload_n dX8_split_261 rfl ?_
    refine AW.mA 9 W dX8_split_262 lkX8_35 rfl rfl ?_
    refine AW.iconst dX8_split_265 (by decide) ?_
    refine AW.iload dX8_split_266 rfl ?_
    refine AW.imulB dX8_split_268 (by omega) ?_
    refine AW.mldE (j := 9) W dX8_split_269 rfl rfl (by simp only [mlen]; omega) (by (repeat first | apply zs_ne rfl | apply zs_eq (by omega) | apply zs_miss (by omega) | apply zbeg_o rfl | apply zbeg_h | apply zcp_o rfl | apply zmak_o rfl | apply zmak_2); exact rfl) ?_
    refine AW.iret dX8_split_270 rfl ?_
    exact kO e
  · refine AW.iconst dX8_split_142 (by decide) ?_
    refine AW.iret dX8_split_143 rfl ?_
    have c := bz_n0.mp c_139
    exact kE c
def zcJoi (Z : ZT) (s o1 o2 n d : Int) : Int := cd3 (zatH Z s o1 = -1 ∨ zatH Z s o2 = -1) (¬ ((0 ≤ n ∧ n ≤ 25) ∧ (2 ≤ d ∧ d ≤ 100) ∧ ¬ zatH Z s o1 = zatH Z s o2)) (zfre Z s (zatH Z s o1) = 0 ∨ zfre Z s (zatH Z s o2) = 0 ∨ ((zatH Z s n ≠ -1 ∧ zatH Z s n ≠ zatH Z s o1) ∧ (zatH Z s n ≠ -1 ∧ zatH Z s n ≠ zatH Z s o2)))
def zJoi (Z : ZT) (s o1 o2 n d : Int) : ZT :=
  let a := Z 1 s.toNat + 1
  let f := zatH Z s o1
  let g := zatH Z s o2
  let nf := Z 2 s.toNat
  let p := 24 * s + a
  let nd := bz (¬ Z 6 (48 * (24 * s + Z 1 s.toNat) + f).toNat = 0 ∨ ¬ Z 6 (48 * (24 * s + Z 1 s.toNat) + g).toNat = 0)
  zs (zmak (zs (zs (zs (zs (zs (zbeg (zs Z 48 0 0) s a nf 4) 5 (48 * (24 * s + a) + f).toNat (-1)) 5 (48 * (24 * s + a) + g).toNat (-1)) 10 p.toNat d) 8 (2 * p).toNat f) 8 (2 * p + 1).toNat g) s a nf n 0 (zjoi (Z 4 (48 * s + f).toNat) (Z 4 (48 * s + g).toNat) d) nd) 9 (2 * p).toNat nf
set_option maxHeartbeats 2000000 in
theorem kX8_join {s o1 o2 n d : Int} (W : WfM h) (B : BS Z) (F : BF Z) (kE : 0 < zcJoi Z s o1 o2 n d → Q (mput h (zs Z 48 0 (zcJoi Z s o1 o2 n d))) (.inl (some (vi 0)))) (kO : zcJoi Z s o1 o2 n d = 0 → Q (mput h (zJoi Z s o1 o2 n d)) (.inl (some (vi (Z 2 s.toNat))))) :
    AC mX8_join fX8_join loX8_join 0 0 (mput h Z) [vr mO, vi s, vi o1, vi o2, vi n, vi d] Q := by
  have B0 := B.1
  have hR := zatH_rng B (s := s) (n := o1)
  have hG := zatH_rng B (s := s) (n := o2)
  refine AC.mk (by decide) (Nat.le_of_ble_eq_true rfl) ?_
  refine AW.aload_n dX8_join_0 rfl ?_
  refine AW.iload_n dX8_join_1 rfl ?_
  refine AW.iload_n dX8_join_2 rfl ?_
  refine AW.callV (as := [vi _, vi _]) dX8_join_3 rfl rfl rfl okX8_atHead lkX8_169 W.1 rfl rfl rfl rfl rfl rfl rfl (kX8_atHead W (by assumption) (AW.k1 ?_))
  refine AW.istore dX8_join_6 rfl ?_
  refine AW.aload_n dX8_join_8 rfl ?_
  refine AW.iload_n dX8_join_9 rfl ?_
  refine AW.iload_n dX8_join_10 rfl ?_
  refine AW.callV (as := [vi _, vi _]) dX8_join_11 rfl rfl rfl okX8_atHead lkX8_169 W.1 rfl rfl rfl rfl rfl rfl rfl (kX8_atHead W (by assumption) (AW.k1 ?_))
  refine AW.istore dX8_join_14 rfl ?_
  refine AW.iload dX8_join_16 rfl ?_
  refine AW.iconst dX8_join_18 (by decide) ?_
  refine' AW.icmp_eqJ 33 (tgt := 32) dX8_join_19 rfl _ _ _
  rotate_left 2
  · intro c_19 k_19
    refine AW.iconst dX8_join_32 (by decide) ?_
    exact k_19
  · intro c_19 k_19
    refine AW.iload dX8_join_22 rfl ?_
    refine AW.iconst dX8_join_24 (by decide) ?_
    refine' AW.icmp_eqJ 33 (tgt := 32) dX8_join_25 rfl _ _ _
    rotate_left 2
    · intro c_25 k_25
      refine AW.iconst dX8_join_32 (by decide) ?_
      exact k_25
    · intro c_25 k_25
      refine AW.iconst dX8_join_28 (by decide) ?_
      refine AW.goto (tgt := 33) dX8_join_29 rfl ?_
      exact k_25
    exact k_19
  refine AW.top (y := bz (¬ zatH Z s o1 = -1 ∧ ¬ zatH Z s o2 = -1)) (by unfold bz; (repeat' split) <;> simp_all) ?_
  refine AW.istore dX8_join_33 rfl ?_
  refine AW.iload dX8_join_35 rfl ?_
  refine AW.callS (as := [vi _]) dX8_join_37 rfl rfl rfl okX8_isName lkX8_148 rfl rfl rfl rfl rfl rfl (kX8_isName  (AW.k1 ?_))
  refine' AW.if_eqJ 66 (tgt := 65) dX8_join_40 rfl _ _ _
  rotate_left 2
  · intro c_40 k_40
    refine AW.iconst dX8_join_65 (by decide) ?_
    exact k_40
  · intro c_40 k_40
    refine AW.iload dX8_join_43 rfl ?_
    refine AW.iconst dX8_join_45 (by decide) ?_
    refine AW.bipush dX8_join_46 bp_100 (by decide) ?_
    refine AW.callS (as := [vi _, vi _, vi _]) dX8_join_48 rfl rfl rfl okX8_lies lkX8_144 rfl rfl rfl rfl rfl rfl (kX8_lies  (AW.k1 ?_))
    refine' AW.if_eqJ 66 (tgt := 65) dX8_join_51 rfl _ _ _
    rotate_left 2
    · intro c_51 k_51
      refine AW.iconst dX8_join_65 (by decide) ?_
      exact k_51
    · intro c_51 k_51
      refine AW.iload dX8_join_54 rfl ?_
      refine AW.iload dX8_join_56 rfl ?_
      refine' AW.icmp_eqJ 66 (tgt := 65) dX8_join_58 rfl _ _ _
      rotate_left 2
      · intro c_58 k_58
        refine AW.iconst dX8_join_65 (by decide) ?_
        exact k_58
      · intro c_58 k_58
        refine AW.iconst dX8_join_61 (by decide) ?_
        refine AW.goto (tgt := 66) dX8_join_62 rfl ?_
        exact k_58
      exact k_51
    exact k_40
  refine AW.top (y := bz ((0 ≤ n ∧ n ≤ 25) ∧ (2 ≤ d ∧ d ≤ 100) ∧ ¬ zatH Z s o1 = zatH Z s o2)) (by simp only [bz_0]; unfold bz; (repeat' split) <;> simp_all) ?_
  refine AW.istore dX8_join_66 rfl ?_
  refine AW.iload dX8_join_68 rfl ?_
  refine' AW.if_eqJ 135 (tgt := 134) dX8_join_70 rfl _ _ _
  rotate_left 2
  · intro c_70 k_70
    refine AW.iconst dX8_join_134 (by decide) ?_
    exact k_70
  · intro c_70 k_70
    have c2 := bz_n0.mp c_70
    have hR2 := hR.resolve_left c2.1
    have hG2 := hG.resolve_left c2.2
    refine AW.iload dX8_join_73 rfl ?_
    refine' AW.if_eqJ 135 (tgt := 134) dX8_join_75 rfl _ _ _
    rotate_left 2
    · intro c_75 k_75
      refine AW.iconst dX8_join_134 (by decide) ?_
      exact k_75
    · intro c_75 k_75
      refine AW.aload_n dX8_join_78 rfl ?_
      refine AW.iload_n dX8_join_79 rfl ?_
      refine AW.iload dX8_join_80 rfl ?_
      refine AW.callV (as := [vi _, vi _]) dX8_join_82 rfl rfl rfl okX8_isFree lkX8_194 W.1 rfl rfl rfl rfl rfl rfl rfl (kX8_isFree W (by assumption) (by omega) (by omega) (AW.k1 ?_))
      refine' AW.if_eqJ 135 (tgt := 134) dX8_join_85 rfl _ _ _
      rotate_left 2
      · intro c_85 k_85
        refine AW.iconst dX8_join_134 (by decide) ?_
        exact k_85
      · intro c_85 k_85
        refine AW.aload_n dX8_join_88 rfl ?_
        refine AW.iload_n dX8_join_89 rfl ?_
        refine AW.iload dX8_join_90 rfl ?_
        refine AW.callV (as := [vi _, vi _]) dX8_join_92 rfl rfl rfl okX8_isFree lkX8_194 W.1 rfl rfl rfl rfl rfl rfl rfl (kX8_isFree W (by assumption) (by omega) (by omega) (AW.k1 ?_))
        refine' AW.if_eqJ 135 (tgt := 134) dX8_join_95 rfl _ _ _
        rotate_left 2
        · intro c_95 k_95
          refine AW.iconst dX8_join_134 (by decide) ?_
          exact k_95
        · intro c_95 k_95
          refine AW.aload_n dX8_join_98 rfl ?_
          refine AW.aload_n dX8_join_99 rfl ?_
          refine AW.iload_n dX8_join_100 rfl ?_
          refine AW.iload dX8_join_101 rfl ?_
          refine AW.callV (as := [vi _, vi _]) dX8_join_103 rfl rfl rfl okX8_atHead lkX8_169 W.1 rfl rfl rfl rfl rfl rfl rfl (kX8_atHead W (by assumption) (AW.k1 ?_))
          refine AW.iload dX8_join_106 rfl ?_
          refine AW.callV (as := [vi _, vi _]) dX8_join_108 rfl rfl rfl okX8_isOther lkX8_197 W.1 rfl rfl rfl rfl rfl rfl rfl (kX8_isOther  (AW.k1 ?_))
          refine' AW.if_eqJ 135 (tgt := 130) dX8_join_111 rfl _ _ _
          rotate_left 2
          · intro c_111 k_111
            refine AW.iconst dX8_join_130 (by decide) ?_
            refine AW.goto (tgt := 135) dX8_join_131 rfl ?_
            exact k_111
          · intro c_111 k_111
            refine AW.aload_n dX8_join_114 rfl ?_
            refine AW.aload_n dX8_join_115 rfl ?_
            refine AW.iload_n dX8_join_116 rfl ?_
            refine AW.iload dX8_join_117 rfl ?_
            refine AW.callV (as := [vi _, vi _]) dX8_join_119 rfl rfl rfl okX8_atHead lkX8_169 W.1 rfl rfl rfl rfl rfl rfl rfl (kX8_atHead W (by assumption) (AW.k1 ?_))
            refine AW.iload dX8_join_122 rfl ?_
            refine AW.callV (as := [vi _, vi _]) dX8_join_124 rfl rfl rfl okX8_isOther lkX8_197 W.1 rfl rfl rfl rfl rfl rfl rfl (kX8_isOther  (AW.k1 ?_))
            refine' AW.if_neJ 135 (tgt := 134) dX8_join_127 rfl _ _ _
            rotate_left 2
            · intro c_127 k_127
              refine AW.iconst dX8_join_134 (by decide) ?_
              exact k_127
            · intro c_127 k_127
              refine AW.iconst dX8_join_130 (by decide) ?_
              refine AW.goto (tgt := 135) dX8_join_131 rfl ?_
              exact k_127
            exact k_111
          exact k_95
        exact k_85
      exact k_75
    exact k_70
  refine AW.top (y := bz ((¬ zatH Z s o1 = -1 ∧ ¬ zatH Z s o2 = -1) ∧ ((0 ≤ n ∧ n ≤ 25) ∧ (2 ≤ d ∧ d ≤ 100) ∧ ¬ zatH Z s o1 = zatH Z s o2) ∧ ¬ zfre Z s (zatH Z s o1) = 0 ∧ ¬ zfre Z s (zatH Z s o2) = 0 ∧ ¬ ((zatH Z s n ≠ -1 ∧ zatH Z s n ≠ zatH Z s o1) ∧ (zatH Z s n ≠ -1 ∧ zatH Z s n ≠ zatH Z s o2)))) (by simp only [bz_0]; unfold bz; (repeat' split) <;> simp_all) ?_
  refine AW.istore dX8_join_135 rfl ?_
  refine AW.aload_n dX8_join_137 rfl ?_
  refine AW.iload dX8_join_138 rfl ?_
  refine' AW.if_neJ 166 (tgt := 147) dX8_join_140 rfl _ _ _
  rotate_left 2
  · intro c_140 k_140
    refine AW.iload dX8_join_147 rfl ?_
    refine' AW.if_neJ 166 (tgt := 156) dX8_join_149 rfl _ _ _
    rotate_left 2
    · intro c_149 k_149
      refine AW.iload dX8_join_156 rfl ?_
      refine' AW.if_eqJ 166 (tgt := 165) dX8_join_158 rfl _ _ _
      rotate_left 2
      · intro c_158 k_158
        refine AW.iconst dX8_join_165 (by decide) ?_
        exact k_158
      · intro c_158 k_158
        refine AW.iconst dX8_join_161 (by decide) ?_
        refine AW.goto (tgt := 166) dX8_join_162 rfl ?_
        exact k_158
      exact k_149
    · intro c_149 k_149
      refine AW.iconst dX8_join_152 (by decide) ?_
      refine AW.goto (tgt := 166) dX8_join_153 rfl ?_
      exact k_149
    exact k_140
  · intro c_140 k_140
    refine AW.iconst dX8_join_143 (by decide) ?_
    refine AW.goto (tgt := 166) dX8_join_144 rfl ?_
    exact k_140
  refine AW.top (y := zcJoi Z s o1 o2 n d) (by unfold zcJoi cd3; simp only [bz_0, Classical.not_not]; (repeat' split) <;> simp_all) ?_
  refine AW.callV (as := [vi _]) dX8_join_166 rfl rfl rfl okX8_fails lkX8_162 W.1 rfl rfl rfl rfl rfl rfl rfl (kX8_fails W (AW.k1 ?_))
  refine AW.if_eq (tgt := 174) dX8_join_169 rfl (fun c_169 => ?_) (fun c_169 => ?_)
  · have c := bz_0.mp c_169
    have e : zcJoi Z s o1 o2 n d = 0 := by unfold zcJoi cd3 at *; (repeat' split at c) <;> omega
    obtain ⟨c1, c2, c3⟩ := cd3_0.mp c
    rw [not_or] at c1
    have hR := hR.resolve_left c1.1
    have hG := hG.resolve_left c1.2
    have b := B.2 s.toNat (by omega)
    rw [Classical.not_not] at c2
    have c4 : Z 1 s.toNat < 23 := by have q : ¬ zfre Z s (zatH Z s o1) = 0 := fun w => c3 (Or.inl w); unfold zfre at q; have q2 := bz_n0.mp q; omega
    rw [e]
    refine AW.aload_n dX8_join_174 rfl ?_
    refine AW.mA 4 W dX8_join_175 lkX8_19 rfl rfl ?_
    refine AW.bipush dX8_join_178 bp_48 (by decide) ?_
    refine AW.iload_n dX8_join_180 rfl ?_
    refine AW.imulB dX8_join_181 (by omega) ?_
    refine AW.iload dX8_join_182 rfl ?_
    refine AW.iaddB dX8_join_184 (by omega) ?_
    refine AW.mldE (j := 4) W dX8_join_185 rfl rfl (by simp only [mlen]; omega) (by (repeat first | apply zs_ne rfl | apply zs_eq (by omega) | apply zs_miss (by omega) | apply zbeg_o rfl | apply zbeg_h | apply zcp_o rfl | apply zmak_o rfl | apply zmak_2); exact rfl) ?_
    refine AW.aload_n dX8_join_186 rfl ?_
    refine AW.mA 4 W dX8_join_187 lkX8_19 rfl rfl ?_
    refine AW.bipush dX8_join_190 bp_48 (by decide) ?_
    refine AW.iload_n dX8_join_192 rfl ?_
    refine AW.imulB dX8_join_193 (by omega) ?_
    refine AW.iload dX8_join_194 rfl ?_
    refine AW.iaddB dX8_join_196 (by omega) ?_
    refine AW.mldE (j := 4) W dX8_join_197 rfl rfl (by simp only [mlen]; omega) (by (repeat first | apply zs_ne rfl | apply zs_eq (by omega) | apply zs_miss (by omega) | apply zbeg_o rfl | apply zbeg_h | apply zcp_o rfl | apply zmak_o rfl | apply zmak_2); exact rfl) ?_
    refine AW.iload dX8_join_198 rfl ?_
    refine AW.callS (as := [vi _, vi _, vi _]) dX8_join_200 rfl rfl rfl okX8_joined lkX8_200 rfl rfl rfl rfl rfl rfl (kX8_joined  (AW.k1 ?_))
    refine AW.istore dX8_join_203 rfl ?_
    refine AW.aload_n dX8_join_205 rfl ?_
    refine AW.mA 6 W dX8_join_206 lkX8_25 rfl rfl ?_
    refine AW.iload_n dX8_join_209 rfl ?_
    refine AW.aload_n dX8_join_210 rfl ?_
    refine AW.pcs (pc2 := 211) rfl ?_
    refine AW.mA 1 W dX8_join_211 lkX8_7 rfl rfl ?_
    refine AW.iload_n dX8_join_214 rfl ?_
    refine AW.mldE (j := 1) W dX8_join_215 rfl rfl (by simp only [mlen]; omega) (by (repeat first | apply zs_ne rfl | apply zs_eq (by omega) | apply zs_miss (by omega) | apply zbeg_o rfl | apply zbeg_h | apply zcp_o rfl | apply zmak_o rfl | apply zmak_2); exact rfl) ?_
    refine AW.iload dX8_join_216 rfl ?_
    refine AW.callS (as := [vi _, vi _, vi _]) dX8_join_218 rfl rfl rfl okX8_place lkX8_152 rfl rfl rfl rfl rfl rfl (kX8_place (by omega) (AW.k1 ?_))
    refine AW.mldZE (j := 6) W dX8_join_221 rfl rfl (by simp only [mlen]; omega) (by (repeat first | apply zs_ne rfl | apply zs_eq (by omega) | apply zs_miss (by omega) | apply zbeg_o rfl | apply zbeg_h | apply zcp_o rfl | apply zmak_o rfl | apply zmak_2); exact rfl) ?_
    refine' AW.if_neJ 250 (tgt := 245) dX8_join_222 rfl _ _ _
    rotate_left 2
    · intro c_222 k_222
      refine AW.iconst dX8_join_245 (by decide) ?_
      refine AW.goto (tgt := 250) dX8_join_246 rfl ?_
      exact k_222
    · intro c_222 k_222
      refine AW.aload_n dX8_join_225 rfl ?_
      refine AW.mA 6 W dX8_join_226 lkX8_25 rfl rfl ?_
      refine AW.iload_n dX8_join_229 rfl ?_
      refine AW.aload_n dX8_join_230 rfl ?_
      refine AW.mA 1 W dX8_join_231 lkX8_7 rfl rfl ?_
      refine AW.iload_n dX8_join_234 rfl ?_
      refine AW.mldE (j := 1) W dX8_join_235 rfl rfl (by simp only [mlen]; omega) (by (repeat first | apply zs_ne rfl | apply zs_eq (by omega) | apply zs_miss (by omega) | apply zbeg_o rfl | apply zbeg_h | apply zcp_o rfl | apply zmak_o rfl | apply zmak_2); exact rfl) ?_
      refine AW.iload dX8_join_236 rfl ?_
      refine AW.callS (as := [vi _, vi _, vi _]) dX8_join_238 rfl rfl rfl okX8_place lkX8_152 rfl rfl rfl rfl rfl rfl (kX8_place (by omega) (AW.k1 ?_))
      refine AW.mldZE (j := 6) W dX8_join_241 rfl rfl (by simp only [mlen]; omega) (by (repeat first | apply zs_ne rfl | apply zs_eq (by omega) | apply zs_miss (by omega) | apply zbeg_o rfl | apply zbeg_h | apply zcp_o rfl | apply zmak_o rfl | apply zmak_2); exact rfl) ?_
      refine' AW.if_eqJ 250 (tgt := 249) dX8_join_242 rfl _ _ _
      rotate_left 2
      · intro c_242 k_242
        refine AW.iconst dX8_join_249 (by decide) ?_
        exact k_242
      · intro c_242 k_242
        refine AW.iconst dX8_join_245 (by decide) ?_
        refine AW.goto (tgt := 250) dX8_join_246 rfl ?_
        exact k_242
      exact k_222
    refine AW.top (y := bz (¬ Z 6 (48 * (24 * s + Z 1 s.toNat) + zatH Z s o1).toNat = 0 ∨ ¬ Z 6 (48 * (24 * s + Z 1 s.toNat) + zatH Z s o2).toNat = 0)) (by unfold bz; (repeat' split) <;> simp_all) ?_
    refine AW.istore dX8_join_250 rfl ?_
    refine AW.aload_n dX8_join_252 rfl ?_
    refine AW.iload_n dX8_join_253 rfl ?_
    refine AW.iconst dX8_join_254 (by decide) ?_
    refine AW.callV (as := [vi _, vi _]) dX8_join_255 rfl rfl rfl okX8_begins lkX8_176 W.1 rfl rfl rfl rfl rfl rfl rfl (kX8_begins (a := Z 1 s.toNat + 1) (f := Z 2 s.toNat) W (by omega) (by (repeat first | apply zs_ne rfl | apply zs_eq (by omega) | apply zs_miss (by omega) | apply zbeg_o rfl | apply zbeg_h | apply zcp_o rfl | apply zmak_o rfl | apply zmak_2); first | exact rfl | assumption | omega) (by (repeat first | apply zs_ne rfl | apply zs_eq (by omega) | apply zs_miss (by omega) | apply zbeg_o rfl | apply zbeg_h | apply zcp_o rfl | apply zmak_o rfl | apply zmak_2); first | exact rfl | assumption | omega) (by omega) (by omega) (zsF F) (AW.k1 ?_))
    refine AW.istore dX8_join_258 rfl ?_
    refine AW.aload_n dX8_join_260 rfl ?_
    refine AW.iload_n dX8_join_261 rfl ?_
    refine AW.iload dX8_join_262 rfl ?_
    refine AW.callV (as := [vi _, vi _]) dX8_join_264 rfl rfl rfl okX8_ends lkX8_187 W.1 rfl rfl rfl rfl rfl rfl rfl (kX8_ends (a := Z 1 s.toNat + 1) W (by omega) (by (repeat first | apply zs_ne rfl | apply zs_eq (by omega) | apply zs_miss (by omega) | apply zbeg_o rfl | apply zbeg_h | apply zcp_o rfl | apply zmak_o rfl | apply zmak_2); first | exact rfl | assumption | omega) (by omega) (by omega) (AW.k0 ?_))
    refine AW.aload_n dX8_join_267 rfl ?_
    refine AW.iload_n dX8_join_268 rfl ?_
    refine AW.iload dX8_join_269 rfl ?_
    refine AW.callV (as := [vi _, vi _]) dX8_join_271 rfl rfl rfl okX8_ends lkX8_187 W.1 rfl rfl rfl rfl rfl rfl rfl (kX8_ends (a := Z 1 s.toNat + 1) W (by omega) (by (repeat first | apply zs_ne rfl | apply zs_eq (by omega) | apply zs_miss (by omega) | apply zbeg_o rfl | apply zbeg_h | apply zcp_o rfl | apply zmak_o rfl | apply zmak_2); first | exact rfl | assumption | omega) (by omega) (by omega) (AW.k0 ?_))
    refine AW.aload_n dX8_join_274 rfl ?_
    refine AW.mA 10 W dX8_join_275 lkX8_38 rfl rfl ?_
    refine AW.iload dX8_join_278 rfl ?_
    refine AW.iload dX8_join_280 rfl ?_
    refine AW.mst (j := 10) W dX8_join_282 rfl rfl (by simp only [mlen]; omega) ?_
    refine AW.aload_n dX8_join_283 rfl ?_
    refine AW.mA 8 W dX8_join_284 lkX8_32 rfl rfl ?_
    refine AW.iconst dX8_join_287 (by decide) ?_
    refine AW.iload dX8_join_288 rfl ?_
    refine AW.pcs (pc2 := 290) rfl ?_
    refine AW.imulB dX8_join_290 (by omega) ?_
    refine AW.iload dX8_join_291 rfl ?_
    refine AW.mst (j := 8) W dX8_join_293 rfl rfl (by simp only [mlen]; omega) ?_
    refine AW.aload_n dX8_join_294 rfl ?_
    refine AW.mA 8 W dX8_join_295 lkX8_32 rfl rfl ?_
    refine AW.iconst dX8_join_298 (by decide) ?_
    refine AW.iload dX8_join_299 rfl ?_
    refine AW.imulB dX8_join_301 (by omega) ?_
    refine AW.iconst dX8_join_302 (by decide) ?_
    refine AW.iaddB dX8_join_303 (by omega) ?_
    refine AW.iload dX8_join_304 rfl ?_
    refine AW.mst (j := 8) W dX8_join_306 rfl rfl (by simp only [mlen]; omega) ?_
    refine AW.aload_n dX8_join_307 rfl ?_
    refine AW.mA 9 W dX8_join_308 lkX8_35 rfl rfl ?_
    refine AW.iconst dX8_join_311 (by decide) ?_
    refine AW.iload dX8_join_312 rfl ?_
    refine AW.imulB dX8_join_314 (by omega) ?_
    refine AW.aload_n dX8_join_315 rfl ?_
    refine AW.iload_n dX8_join_316 rfl ?_
    refine AW.iload dX8_join_317 rfl ?_
    refine AW.iconst dX8_join_319 (by decide) ?_
    refine AW.iload dX8_join_320 rfl ?_
    refine AW.iload dX8_join_322 rfl ?_
    refine AW.callV (as := [vi _, vi _, vi _, vi _, vi _]) dX8_join_324 rfl rfl rfl okX8_makes lkX8_179 W.1 rfl rfl rfl rfl rfl rfl rfl (kX8_makes (a := Z 1 s.toNat + 1) (f := Z 2 s.toNat) W (by omega) (by (repeat first | apply zs_ne rfl | apply zs_eq (by omega) | apply zs_miss (by omega) | apply zbeg_o rfl | apply zbeg_h | apply zcp_o rfl | apply zmak_o rfl | apply zmak_2); first | exact rfl | assumption | omega) (by (repeat first | apply zs_ne rfl | apply zs_eq (by omega) | apply zs_miss (by omega) | apply zbeg_o rfl | apply zbeg_h | apply zcp_o rfl | apply zmak_o rfl | apply zmak_2); first | exact rfl | assumption | omega) (by omega) (by omega) (bz01 _) (AW.k1 ?_))
    refine AW.pcs (pc2 := 327) rfl ?_
    refine AW.mst (j := 9) W dX8_join_327 rfl rfl (by simp only [mlen]; omega) ?_
    refine AW.aload_n dX8_join_328 rfl ?_
    refine AW.mA 9 W dX8_join_329 lkX8_35 rfl rfl ?_
    refine AW.iconst dX8_join_332 (by decide) ?_
    refine AW.iload dX8_join_333 rfl ?_
    refine AW.imulB dX8_join_335 (by omega) ?_
    refine AW.mldE (j := 9) W dX8_join_336 rfl rfl (by simp only [mlen]; omega) (by (repeat first | apply zs_ne rfl | apply zs_eq (by omega) | apply zs_miss (by omega) | apply zbeg_o rfl | apply zbeg_h | apply zcp_o rfl | apply zmak_o rfl | apply zmak_2); exact rfl) ?_
    refine AW.iret dX8_join_337 rfl ?_
    exact kO e
  · refine AW.iconst dX8_join_172 (by decide) ?_
    refine AW.iret dX8_join_173 rfl ?_
    have c := bz_n0.mp c_169
    exact kE c
end M4

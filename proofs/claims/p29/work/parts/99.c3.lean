/-! ===== the law's look at a version ===== -/
section C3
variable {Q : AH → AO → Prop} {h g : AH} {Z Y : ZT} {c b L a : Nat}
theorem zfA_x {a : Nat} {n : Int} : ∀ k : Nat, ¬ zfA Z 0 (a : Int) n k = -1 → Z 5 (48 * a + (zfA Z 0 (a : Int) n k).toNat) = n ∧ 0 ≤ n ∧ n ≤ 25
  | 0, q => absurd rfl q
  | k + 1, q => by
    unfold zfA at q ⊢
    split at q
    · next e =>
      rw [if_pos e]
      rw [show (48 * (24 * 0 + (a : Int)) + (k : Int)).toNat = 48 * a + k by omega] at e
      exact ⟨by rw [Int.toNat_natCast]; exact e.2, e.1⟩
    · next e => rw [if_neg e]; exact zfA_x k q
theorem zf_x {a : Nat} {n : Int} (q : ¬ zfind Z 0 (a : Int) n = -1) : Z 5 (48 * a + (zfind Z 0 (a : Int) n).toNat) = n ∧ 0 ≤ n ∧ n ≤ 25 := zfA_x _ q
theorem zFie_n (K : QS Z) {a : Nat} {n : Int} : zFie Z 0 (a : Int) n = if 0 ≤ zfind Z 0 (a : Int) n then 10 * zfind Z 0 (a : Int) n + (if Z 6 (48 * a + (zfind Z 0 (a : Int) n).toNat) = 0 then 0 else 3) + Z 3 (zfind Z 0 (a : Int) n).toNat else -1 := by
  have r := zf_r K (a := (a : Int)) (n := n)
  unfold zFie
  by_cases e : zfind Z 0 (a : Int) n = -1
  · rw [if_pos e, if_neg (by omega)]
  · rw [show (48 * (24 * 0 + (a : Int)) + zfind Z 0 (a : Int) n).toNat = 48 * a + (zfind Z 0 (a : Int) n).toNat by omega, show (48 * 0 + zfind Z 0 (a : Int) n).toNat = (zfind Z 0 (a : Int) n).toNat by omega, if_neg e, if_pos (show 0 ≤ zfind Z 0 (a : Int) n by omega)]
theorem la_rf : la_s h h := fun _ => ⟨fun _ => rfl, fun _ => rfl⟩
theorem la_tr {G : AH} (a : la_s h g) (b : la_s g G) : la_s h G := fun j => ⟨fun i => ((b j).1 i).trans ((a j).1 i), fun i => ((b j).2 i).trans ((a j).2 i)⟩
abbrev lvl (a : Nat) (i : Int) : AL := [(7, vi i), (6, vi 1), (0, vr mF), (1, vr (la 1)), (2, vr (la 2)), (3, vr (la 3)), (4, vr (la 4)), (5, vi (a : Int))]
set_option maxHeartbeats 4000000 in
theorem kL_isVersion (J : IV L h Z c b) (V : JV h Z) (ha : (a : Int) ≤ Z 1 0) (k : ∀ g b', IV L g Z c b' → la_s h g → Q g (.inl (some (vi 1)))) : AC mL_isVersion fL_isVersion loL_isVersion 200 1300 h [vr mF, vr (la 1), vr (la 2), vr (la 3), vr (la 4), vi (a : Int)] Q := by
  have K := J.K
  have b1 := K.b1
  have b2 := K.b2
  refine AC.mk (by decide) (Nat.le_of_ble_eq_true rfl) ?_
  have lp : ∀ (m i : Nat) (g : AH) (b' : Nat), IV L g Z c b' → la_s h g → i ≤ 26 → 26 ≤ i + m → AW mL_isVersion fL_isVersion loL_isVersion 200 1300 Q (4 * m + 60) (24 * m + 480) 110 g (lvl a (i : Int)) [] := by
    intro m
    induction m with
    | zero =>
      intro i g b' J e0 h1 h2
      have e : i = 26 := by omega
      subst e
      have V := V.as e0
      by_cases h0 : a = 0
      · refine AW.iload dL_isVersion_110 rfl ?_
        refine AW.bipush dL_isVersion_112 bp_26 (by decide) ?_
        refine AW.icmp_geT (tgt := 197) dL_isVersion_114 rfl (by omega) ?_
        refine AW.iload dL_isVersion_197 rfl ?_
        refine AW.if_eqF (tgt := 222) dL_isVersion_199 rfl (by omega) ?_
        refine AW.iload dL_isVersion_202 rfl ?_
        refine AW.if_eqT (tgt := 218) dL_isVersion_204 rfl (by omega) ?_
        refine AW.iconst dL_isVersion_218 (by decide) ?_
        refine AW.goto (tgt := 223) dL_isVersion_219 rfl ?_
        refine AW.zret dL_isVersion_223 rfl ?_ ?_
        · omega
        exact k g _ J e0
      · refine AW.iload dL_isVersion_110 rfl ?_
        refine AW.bipush dL_isVersion_112 bp_26 (by decide) ?_
        refine AW.icmp_geT (tgt := 197) dL_isVersion_114 rfl (by omega) ?_
        refine AW.iload dL_isVersion_197 rfl ?_
        refine AW.if_eqF (tgt := 222) dL_isVersion_199 rfl (by omega) ?_
        refine AW.iload dL_isVersion_202 rfl ?_
        refine AW.if_eqF (tgt := 218) dL_isVersion_204 rfl (by omega) ?_
        refine AW.aload_n dL_isVersion_207 rfl ?_
        refine AW.aload_n dL_isVersion_208 rfl ?_
        refine AW.aload_n dL_isVersion_209 rfl ?_
        refine AW.iload dL_isVersion_210 rfl ?_
        refine AW.callS (as := [vq _, vq _, vq _, vi _]) dL_isVersion_212 rfl rfl rfl okL_isText lkL_127 rfl rfl rfl (leb (by omega)) (leb (by omega)) rfl (kL_isText J V (by omega) ha (fun g b2 J e => (AW.k1 ?_)))
        refine AW.if_eqF (tgt := 222) dL_isVersion_215 rfl (by omega) ?_
        refine AW.iconst dL_isVersion_218 (by decide) ?_
        refine AW.goto (tgt := 223) dL_isVersion_219 rfl ?_
        refine AW.zret dL_isVersion_223 rfl ?_ ?_
        · omega
        exact k g _ J (la_tr e0 e)
    | succ m ih =>
      intro i g b' J e0 h1 h2
      by_cases e : i = 26
      · exact AW.less (by omega) (by omega) (ih i g b' J e0 h1 (by omega))
      have Vg := V.as e0
      have zr := zf_r K (a := (a : Int)) (n := (i : Int))
      have eF := zFie_n K (a := a) (n := (i : Int))
      have zx : 0 ≤ zfind Z 0 (a : Int) (i : Int) → ¬ Z 5 (48 * a + (zfind Z 0 (a : Int) (i : Int)).toNat) = -1 := fun z => by have := zf_x (Z := Z) (a := a) (n := (i : Int)) (by omega); omega
      have eN : Unit → bz (¬ Z 5 (48 * a + (zfind Z 0 (a : Int) (i : Int)).toNat) = -1 ∧ ¬ Z 6 (48 * a + (zfind Z 0 (a : Int) (i : Int)).toNat) = 0) = (if 0 ≤ zfind Z 0 (a : Int) (i : Int) then (if Z 6 (48 * a + (zfind Z 0 (a : Int) (i : Int)).toNat) = 0 then 0 else 1) else bz (¬ Z 5 (48 * a + (zfind Z 0 (a : Int) (i : Int)).toNat) = -1 ∧ ¬ Z 6 (48 * a + (zfind Z 0 (a : Int) (i : Int)).toNat) = 0)) := fun _ => by
        split
        · next z => unfold bz; have := zx z; split <;> split <;> first | rfl | (exfalso; simp_all; done)
        · rfl
      refine AW.iload dL_isVersion_110 rfl ?_
      refine AW.bipush dL_isVersion_112 bp_26 (by decide) ?_
      refine AW.icmp_geF (tgt := 197) dL_isVersion_114 rfl (by omega) ?_
      refine AW.iload dL_isVersion_117 rfl ?_
      refine AW.if_eqF (tgt := 197) dL_isVersion_119 rfl (by omega) ?_
      refine AW.aload_n dL_isVersion_122 rfl ?_
      refine AW.aload dL_isVersion_123 rfl ?_
      refine AW.iload dL_isVersion_125 rfl ?_
      refine AW.iload dL_isVersion_127 rfl ?_
      refine AW.callS (as := [vq _, vq _, vi _, vi _]) dL_isVersion_129 rfl rfl rfl okL_find lkL_123 rfl rfl rfl (leb (by omega)) (leb (by omega)) rfl (kL_find J.T Vg.s K ha (by omega) (AW.k1 ?_))
      refine AW.istore dL_isVersion_132 rfl ?_
      refine AW.aload_n dL_isVersion_134 rfl ?_
      refine AW.iconst dL_isVersion_135 (by decide) ?_
      refine AW.iload dL_isVersion_136 rfl ?_
      refine AW.iload dL_isVersion_138 rfl ?_
      refine AW.callV (as := [vi _, vi _, vi _]) dL_isVersion_140 rfl rfl rfl okX7_field lkL_58 J.F rfl rfl rfl rfl (leb (by omega)) (leb (by omega)) rfl (t_field J (by omega) (by omega) (AW.k1 ?_))
      refine AW.iload dL_isVersion_143 rfl ?_
      refine' AW.if_geJ 181 (tgt := 152) dL_isVersion_145 rfl _ _ _
      rotate_left 2
      · intro c_145 k_145
        refine AW.bipush dL_isVersion_152 bp_10 (by decide) ?_
        refine AW.iload dL_isVersion_154 rfl ?_
        refine AW.imulB dL_isVersion_156 (by omega) ?_
        refine AW.aload_n dL_isVersion_157 rfl ?_
        refine AW.iload dL_isVersion_158 rfl ?_
        refine AW.iload dL_isVersion_160 rfl ?_
        refine AW.top (Int.toNat_of_nonneg (by omega)).symm ?_
        refine AW.callS (as := [vq _, vi _, vi _]) dL_isVersion_162 rfl rfl rfl okL_isNeeded lkL_103 rfl rfl rfl (leb (by omega)) (leb (by omega)) rfl (kL_isNd J.T Vg.s K ha (by omega) (AW.k1 ?_))
        rw [eN (), if_pos (by omega)]
        refine' AW.if_eqJ 173 (tgt := 172) dL_isVersion_165 rfl _ _ _
        rotate_left 2
        · intro c_165 k_165
          refine AW.iconst dL_isVersion_172 (by decide) ?_
          exact k_165
        · intro c_165 k_165
          refine AW.iconst dL_isVersion_168 (by decide) ?_
          refine AW.goto (tgt := 173) dL_isVersion_169 rfl ?_
          exact k_165
        refine AW.iaddB dL_isVersion_173 (by omega) ?_
        refine AW.aload_n dL_isVersion_174 rfl ?_
        refine AW.iload dL_isVersion_175 rfl ?_
        refine AW.aldIE dL_isVersion_177 J.T.a3 (by omega) (by omega) (by exact Vg.s.f (f := (zfind Z 0 (a : Int) (i : Int)).toNat) (by omega)) ?_
        refine AW.iconst dL_isVersion_178 (by decide) ?_
        refine AW.irem dL_isVersion_179 (by omega) ?_
        rw [(f_div K (by omega)).2]
        have kd := K.kd (f := (zfind Z 0 (a : Int) (i : Int)).toNat) (by omega)
        refine AW.iaddB dL_isVersion_180 (by omega) ?_
        exact k_145
      · intro c_145 k_145
        refine AW.iconst dL_isVersion_148 (by decide) ?_
        refine AW.goto (tgt := 181) dL_isVersion_149 rfl ?_
        exact k_145
      refine AW.top (y := zFie Z 0 (a : Int) (i : Int)) (by rw [eF]; (repeat' split) <;> first | rfl | omega) ?_
      refine AW.icmp_neF (tgt := 188) dL_isVersion_181 rfl (by rfl) ?_
      refine AW.iconst dL_isVersion_184 (by decide) ?_
      refine AW.goto (tgt := 189) dL_isVersion_185 rfl ?_
      refine AW.istore dL_isVersion_189 rfl ?_
      refine AW.iincB dL_isVersion_191 rfl rfl (by omega) ?_
      refine AW.goto (tgt := 110) dL_isVersion_194 rfl ?_
      refine AW.less (bc' := 4 * m + 60) (bs' := 24 * m + 480) (by omega) (by omega) ?_
      exact AW.locs (lvl a ((i + 1 : Nat) : Int)) ⟨rfl, rfl, rfl, rfl, rfl, rfl, rfl, rfl, trivial⟩ (ih (i + 1) g b' J e0 (by omega) (by omega))
  refine AW.aload_n dL_isVersion_0 rfl ?_
  refine AW.iconst dL_isVersion_1 (by decide) ?_
  refine AW.iconst dL_isVersion_2 (by decide) ?_
  refine AW.iconst dL_isVersion_3 (by decide) ?_
  refine AW.iconst dL_isVersion_4 (by decide) ?_
  refine AW.callSH (as := [vq _, vi _, vi _, vi _, vi _]) dL_isVersion_5 rfl rfl rfl okL_asks lkL_119 rfl rfl rfl (by omega) (by omega) rfl (q_head J (AW.k1 ?_))
  refine AW.bipush dL_isVersion_8 bp_100 (by decide) ?_
  refine AW.aload dL_isVersion_10 rfl ?_
  refine AW.iconst dL_isVersion_12 (by decide) ?_
  refine AW.aldIE dL_isVersion_13 J.T.a4 (by omega) (by omega) (by exact V.s.g0) ?_
  refine AW.imulB dL_isVersion_14 (by omega) ?_
  refine AW.icmp_neF (tgt := 104) dL_isVersion_15 rfl (by rfl) ?_
  refine AW.aload_n dL_isVersion_18 rfl ?_
  refine AW.iconst dL_isVersion_19 (by decide) ?_
  refine AW.iconst dL_isVersion_20 (by decide) ?_
  refine AW.iconst dL_isVersion_21 (by decide) ?_
  refine AW.iconst dL_isVersion_22 (by decide) ?_
  refine AW.callSH (as := [vq _, vi _, vi _, vi _, vi _]) dL_isVersion_23 rfl rfl rfl okL_asks lkL_119 rfl rfl rfl (by omega) (by omega) rfl (q_headX J (AW.k1 ?_))
  refine AW.sipush dL_isVersion_26 sp_m300 (by decide) ?_
  refine AW.icmp_neF (tgt := 104) dL_isVersion_29 rfl (by rfl) ?_
  refine AW.aload_n dL_isVersion_32 rfl ?_
  refine AW.iconst dL_isVersion_33 (by decide) ?_
  refine AW.iconst dL_isVersion_34 (by decide) ?_
  refine AW.pcs (pc2 := 35) rfl ?_
  refine AW.aload dL_isVersion_35 rfl ?_
  refine AW.iconst dL_isVersion_37 (by decide) ?_
  refine AW.aldIE dL_isVersion_38 J.T.a4 (by omega) (by omega) (by exact V.s.g0) ?_
  refine AW.iconst dL_isVersion_39 (by decide) ?_
  refine AW.iaddB dL_isVersion_40 (by omega) ?_
  refine AW.iconst dL_isVersion_41 (by decide) ?_
  refine AW.callSH (as := [vq _, vi _, vi _, vi _, vi _]) dL_isVersion_42 rfl rfl rfl okL_asks lkL_119 rfl rfl rfl (by omega) (by omega) rfl (q_fieldX J (by omega) (AW.k1 ?_))
  refine AW.sipush dL_isVersion_45 sp_m300 (by decide) ?_
  refine AW.icmp_neF (tgt := 104) dL_isVersion_48 rfl (by rfl) ?_
  refine AW.aload_n dL_isVersion_51 rfl ?_
  refine AW.iconst dL_isVersion_52 (by decide) ?_
  refine AW.iconst dL_isVersion_53 (by decide) ?_
  refine AW.iload dL_isVersion_54 rfl ?_
  refine AW.bipush dL_isVersion_56 bp_26 (by decide) ?_
  refine AW.callSH (as := [vq _, vi _, vi _, vi _, vi _]) dL_isVersion_58 rfl rfl rfl okL_asks lkL_119 rfl rfl rfl (by omega) (by omega) rfl (q_fieldA J (by omega) (by omega) (AW.k1 ?_))
  refine AW.sipush dL_isVersion_61 sp_m200 (by decide) ?_
  refine AW.icmp_neF (tgt := 104) dL_isVersion_64 rfl (by rfl) ?_
  refine AW.aload_n dL_isVersion_67 rfl ?_
  refine AW.iconst dL_isVersion_68 (by decide) ?_
  refine AW.iconst dL_isVersion_69 (by decide) ?_
  refine AW.iconst dL_isVersion_70 (by decide) ?_
  refine AW.iconst dL_isVersion_71 (by decide) ?_
  refine AW.callSH (as := [vq _, vi _, vi _, vi _, vi _]) dL_isVersion_72 rfl rfl rfl okL_asks lkL_119 rfl rfl rfl (by omega) (by omega) rfl (q_textX J (fun z => absurd z.1.1 (by omega)) (fun g J e => (AW.k1 ?_)))
  have e0 := e
  have V := V.as e
  refine AW.sipush dL_isVersion_75 sp_m300 (by decide) ?_
  refine AW.pcs (pc2 := 78) rfl ?_
  refine AW.icmp_neF (tgt := 104) dL_isVersion_78 rfl (by rfl) ?_
  refine AW.aload_n dL_isVersion_81 rfl ?_
  refine AW.iconst dL_isVersion_82 (by decide) ?_
  refine AW.iconst dL_isVersion_83 (by decide) ?_
  refine AW.aload dL_isVersion_84 rfl ?_
  refine AW.iconst dL_isVersion_86 (by decide) ?_
  refine AW.aldIE dL_isVersion_87 J.T.a4 (by omega) (by omega) (by exact V.s.g0) ?_
  refine AW.iconst dL_isVersion_88 (by decide) ?_
  refine AW.iaddB dL_isVersion_89 (by omega) ?_
  refine AW.iconst dL_isVersion_90 (by decide) ?_
  refine AW.callSH (as := [vq _, vi _, vi _, vi _, vi _]) dL_isVersion_91 rfl rfl rfl okL_asks lkL_119 rfl rfl rfl (by omega) (by omega) rfl (q_textX J (fun z => absurd z.1.2 (by omega)) (fun g J e => (AW.k1 ?_)))
  have e0 := la_tr e0 e
  refine AW.sipush dL_isVersion_94 sp_m300 (by decide) ?_
  refine AW.icmp_neF (tgt := 104) dL_isVersion_97 rfl (by rfl) ?_
  refine AW.iconst dL_isVersion_100 (by decide) ?_
  refine AW.goto (tgt := 105) dL_isVersion_101 rfl ?_
  refine AW.istore dL_isVersion_105 rfl ?_
  refine AW.iconst dL_isVersion_107 (by decide) ?_
  refine AW.istore dL_isVersion_108 rfl ?_
  refine AW.less (bc' := 4 * 26 + 60) (bs' := 24 * 26 + 480) (by omega) (by omega) ?_
  exact AW.locs (lvl a ((0 : Nat) : Int)) ⟨rfl, rfl, rfl, rfl, rfl, rfl, rfl, rfl, trivial⟩ (lp 26 0 g _ J e0 (by omega) (by omega))
end C3

/-! ===== the law's steps, whole ===== -/
section D8
variable {Q : AH → AO → Prop} {h g : AH} {Z : ZT} {c b L a : Nat}
theorem t_hd (J : IV L h Z c b) (k : Q h (.inl (some (vi (100 * Z 1 0))))) : AC mX7_head fX7_head loX7_head 2 12 h [vr mF, vi 0] Q :=
  sX7_head J.S (fun z => absurd (show (0 : Int) ≤ 0 ∧ (0 : Int) < Z 0 0 by rw [J.z0]; decide) z) (fun _ => by
    show Q h (.inl (some (vi (100 * Z 1 0 + Z 11 0))))
    rw [J.z11, Int.add_zero]; exact k)
abbrev lsa (w one two three : Int) : AL := [(0, vr mF), (1, vr (la 1)), (2, vr (la 2)), (3, vr (la 3)), (4, vr (la 4)), (5, vi w), (6, vi one), (7, vi two), (8, vi three)]
set_option maxHeartbeats 2000000 in
theorem kL_isStep {w one two three : Int} (J : IV L h Z c b) (V : JV h Z) (hw : 0 ≤ w ∧ w ≤ 6) (h1 : 0 ≤ one ∧ one < 10000) (h2 : 0 ≤ two ∧ two < 10000) (h3 : 0 ≤ three ∧ three < 10000) (k : ∀ g Y, IV L g Y c b → JV g Y → Q g (.inl (some (vi 1)))) : AC mL_isStep fL_isStep loL_isStep 10 60 h [vr mF, vr (la 1), vr (la 2), vr (la 3), vr (la 4), vi w, vi one, vi two, vi three] Q := by
  have K := J.K
  have b1 := K.b1
  have b2 := K.b2
  obtain ⟨a, hv⟩ := Int.eq_ofNat_of_zero_le b1.1
  refine AC.mk (by decide) (Nat.le_of_ble_eq_true rfl) ?_
  have s3 : ∀ nm ot th : Int, (0 ≤ nm ∧ nm ≤ 5 ∨ nm = 26) → (0 ≤ ot ∧ ot ≤ 6 ∨ ot = 26) → (0 ≤ th ∧ th ≤ 6 ∨ th = 26) → AW mL_isStep fL_isStep loL_isStep 10 60 Q 10 60 60 h ((11, vi th) :: (10, vi ot) :: (9, vi nm) :: lsa w one two three) [] := by
    intro nm ot th hnm hot hth
    by_cases ha : a ≤ 9
    · by_cases h8 : Z 2 0 ≤ 8
      · refine AW.aload_n dL_isStep_60 rfl ?_
        refine AW.aload dL_isStep_61 rfl ?_
        refine AW.aload dL_isStep_63 rfl ?_
        refine AW.iconst dL_isStep_65 (by decide) ?_
        refine AW.aldIE dL_isStep_66 J.T.a4 (by omega) (by omega) (by exact V.s.g0.trans hv) ?_
        refine AW.iload dL_isStep_67 rfl ?_
        refine AW.callS (as := [vq _, vq _, vi _, vi _]) dL_isStep_69 rfl rfl rfl okL_find lkL_123 rfl rfl rfl (leb (by omega)) (leb (by omega)) rfl (kL_find J.T V.s K (a := a) (by omega) (by omega) (AW.k1 ?_))
        refine AW.istore dL_isStep_72 rfl ?_
        refine AW.aload_n dL_isStep_74 rfl ?_
        refine AW.aload dL_isStep_75 rfl ?_
        refine AW.aload dL_isStep_77 rfl ?_
        refine AW.iconst dL_isStep_79 (by decide) ?_
        refine AW.aldIE dL_isStep_80 J.T.a4 (by omega) (by omega) (by exact V.s.g0.trans hv) ?_
        refine AW.iload dL_isStep_81 rfl ?_
        refine AW.callS (as := [vq _, vq _, vi _, vi _]) dL_isStep_83 rfl rfl rfl okL_find lkL_123 rfl rfl rfl (leb (by omega)) (leb (by omega)) rfl (kL_find J.T V.s K (a := a) (by omega) (by omega) (AW.k1 ?_))
        refine AW.istore dL_isStep_86 rfl ?_
        refine AW.aload dL_isStep_88 rfl ?_
        refine AW.iconst dL_isStep_90 (by decide) ?_
        refine AW.aldIE dL_isStep_91 J.T.a4 (by omega) (by omega) (by exact V.s.g0.trans hv) ?_
        refine AW.bipush dL_isStep_92 bp_9 (by decide) ?_
        refine AW.icmp_gtF (tgt := 106) dL_isStep_94 rfl (by omega) ?_
        refine AW.aload dL_isStep_97 rfl ?_
        refine AW.iconst dL_isStep_99 (by decide) ?_
        refine AW.pcs (pc2 := 100) rfl ?_
        refine AW.aldIE dL_isStep_100 J.T.a4 (by omega) (by omega) (by exact V.s.g1) ?_
        refine AW.bipush dL_isStep_101 bp_8 (by decide) ?_
        refine AW.icmp_leT (tgt := 127) dL_isStep_103 rfl (by omega) ?_
        refine AW.locs (lst w one two three nm ot th (zfind Z 0 (a : Int) nm) (zfind Z 0 (a : Int) ot)) ⟨rfl, rfl, rfl, rfl, rfl, rfl, rfl, rfl, rfl, rfl, rfl, rfl, rfl, rfl, trivial⟩ ?_
        have e1 : zfind Z 0 (Z 1 0) nm = zfind Z 0 (a : Int) nm := by rw [hv]
        have e2 : zfind Z 0 (Z 1 0) ot = zfind Z 0 (a : Int) ot := by rw [hv]
        have hw7 : w = 0 ∨ w = 1 ∨ w = 2 ∨ w = 3 ∨ w = 4 ∨ w = 5 ∨ w = 6 := by omega
        rcases hw7 with rfl | rfl | rfl | rfl | rfl | rfl | rfl
        · exact is_add J V hv ha h8 h1 h2 h3 hnm hot hth e1 e2 k
        · exact is_ren J V hv ha h8 h1 h2 h3 hnm hot hth e1 e2 k
        · exact is_tur J V hv ha h8 h1 h2 h3 hnm hot hth e1 e2 k
        · exact is_spl J V hv ha h8 h1 h2 h3 hnm hot hth e1 e2 k
        · exact is_joi J V hv ha h8 h1 h2 h3 hnm hot hth e1 e2 k
        · exact is_dro J V hv ha h8 h1 h2 h3 hnm hot hth e1 e2 k
        · exact is_tog J V hv ha h8 h1 h2 h3 hnm hot hth e1 e2 k
      · refine AW.aload_n dL_isStep_60 rfl ?_
        refine AW.aload dL_isStep_61 rfl ?_
        refine AW.aload dL_isStep_63 rfl ?_
        refine AW.iconst dL_isStep_65 (by decide) ?_
        refine AW.aldIE dL_isStep_66 J.T.a4 (by omega) (by omega) (by exact V.s.g0.trans hv) ?_
        refine AW.iload dL_isStep_67 rfl ?_
        refine AW.callS (as := [vq _, vq _, vi _, vi _]) dL_isStep_69 rfl rfl rfl okL_find lkL_123 rfl rfl rfl (leb (by omega)) (leb (by omega)) rfl (kL_find J.T V.s K (a := a) (by omega) (by omega) (AW.k1 ?_))
        refine AW.istore dL_isStep_72 rfl ?_
        refine AW.aload_n dL_isStep_74 rfl ?_
        refine AW.aload dL_isStep_75 rfl ?_
        refine AW.aload dL_isStep_77 rfl ?_
        refine AW.iconst dL_isStep_79 (by decide) ?_
        refine AW.aldIE dL_isStep_80 J.T.a4 (by omega) (by omega) (by exact V.s.g0.trans hv) ?_
        refine AW.iload dL_isStep_81 rfl ?_
        refine AW.callS (as := [vq _, vq _, vi _, vi _]) dL_isStep_83 rfl rfl rfl okL_find lkL_123 rfl rfl rfl (leb (by omega)) (leb (by omega)) rfl (kL_find J.T V.s K (a := a) (by omega) (by omega) (AW.k1 ?_))
        refine AW.istore dL_isStep_86 rfl ?_
        refine AW.aload dL_isStep_88 rfl ?_
        refine AW.iconst dL_isStep_90 (by decide) ?_
        refine AW.aldIE dL_isStep_91 J.T.a4 (by omega) (by omega) (by exact V.s.g0.trans hv) ?_
        refine AW.bipush dL_isStep_92 bp_9 (by decide) ?_
        refine AW.icmp_gtF (tgt := 106) dL_isStep_94 rfl (by omega) ?_
        refine AW.aload dL_isStep_97 rfl ?_
        refine AW.iconst dL_isStep_99 (by decide) ?_
        refine AW.pcs (pc2 := 100) rfl ?_
        refine AW.aldIE dL_isStep_100 J.T.a4 (by omega) (by omega) (by exact V.s.g1) ?_
        refine AW.bipush dL_isStep_101 bp_8 (by decide) ?_
        refine AW.icmp_leF (tgt := 127) dL_isStep_103 rfl (by omega) ?_
        refine AW.aload_n dL_isStep_106 rfl ?_
        refine AW.iconst dL_isStep_107 (by decide) ?_
        refine AW.callV (as := [vi _]) dL_isStep_108 rfl rfl rfl okX7_head lkL_74 J.F rfl rfl rfl rfl (leb (by omega)) (leb (by omega)) rfl (t_hd J (AW.k1 ?_))
        refine AW.bipush dL_isStep_111 bp_100 (by decide) ?_
        refine AW.aload dL_isStep_113 rfl ?_
        refine AW.iconst dL_isStep_115 (by decide) ?_
        refine AW.aldIE dL_isStep_116 J.T.a4 (by omega) (by omega) (by exact V.s.g0.trans hv) ?_
        refine AW.imulB dL_isStep_117 (by omega) ?_
        refine AW.icmp_neF (tgt := 125) dL_isStep_118 rfl (by rw [hv]) ?_
        refine AW.iconst dL_isStep_121 (by decide) ?_
        refine AW.goto (tgt := 126) dL_isStep_122 rfl ?_
        refine AW.zret dL_isStep_126 rfl ?_ ?_
        · omega
        exact k _ _ J V
    · refine AW.aload_n dL_isStep_60 rfl ?_
      refine AW.aload dL_isStep_61 rfl ?_
      refine AW.aload dL_isStep_63 rfl ?_
      refine AW.iconst dL_isStep_65 (by decide) ?_
      refine AW.aldIE dL_isStep_66 J.T.a4 (by omega) (by omega) (by exact V.s.g0.trans hv) ?_
      refine AW.iload dL_isStep_67 rfl ?_
      refine AW.callS (as := [vq _, vq _, vi _, vi _]) dL_isStep_69 rfl rfl rfl okL_find lkL_123 rfl rfl rfl (leb (by omega)) (leb (by omega)) rfl (kL_find J.T V.s K (a := a) (by omega) (by omega) (AW.k1 ?_))
      refine AW.istore dL_isStep_72 rfl ?_
      refine AW.aload_n dL_isStep_74 rfl ?_
      refine AW.aload dL_isStep_75 rfl ?_
      refine AW.aload dL_isStep_77 rfl ?_
      refine AW.iconst dL_isStep_79 (by decide) ?_
      refine AW.aldIE dL_isStep_80 J.T.a4 (by omega) (by omega) (by exact V.s.g0.trans hv) ?_
      refine AW.iload dL_isStep_81 rfl ?_
      refine AW.callS (as := [vq _, vq _, vi _, vi _]) dL_isStep_83 rfl rfl rfl okL_find lkL_123 rfl rfl rfl (leb (by omega)) (leb (by omega)) rfl (kL_find J.T V.s K (a := a) (by omega) (by omega) (AW.k1 ?_))
      refine AW.istore dL_isStep_86 rfl ?_
      refine AW.aload dL_isStep_88 rfl ?_
      refine AW.iconst dL_isStep_90 (by decide) ?_
      refine AW.aldIE dL_isStep_91 J.T.a4 (by omega) (by omega) (by exact V.s.g0.trans hv) ?_
      refine AW.bipush dL_isStep_92 bp_9 (by decide) ?_
      refine AW.icmp_gtT (tgt := 106) dL_isStep_94 rfl (by omega) ?_
      refine AW.aload_n dL_isStep_106 rfl ?_
      refine AW.iconst dL_isStep_107 (by decide) ?_
      refine AW.pcs (pc2 := 108) rfl ?_
      refine AW.callV (as := [vi _]) dL_isStep_108 rfl rfl rfl okX7_head lkL_74 J.F rfl rfl rfl rfl (leb (by omega)) (leb (by omega)) rfl (t_hd J (AW.k1 ?_))
      refine AW.bipush dL_isStep_111 bp_100 (by decide) ?_
      refine AW.aload dL_isStep_113 rfl ?_
      refine AW.iconst dL_isStep_115 (by decide) ?_
      refine AW.aldIE dL_isStep_116 J.T.a4 (by omega) (by omega) (by exact V.s.g0.trans hv) ?_
      refine AW.imulB dL_isStep_117 (by omega) ?_
      refine AW.icmp_neF (tgt := 125) dL_isStep_118 rfl (by rw [hv]) ?_
      refine AW.iconst dL_isStep_121 (by decide) ?_
      refine AW.goto (tgt := 126) dL_isStep_122 rfl ?_
      refine AW.zret dL_isStep_126 rfl ?_ ?_
      · omega
      exact k _ _ J V
  have s2 : ∀ nm ot : Int, (0 ≤ nm ∧ nm ≤ 5 ∨ nm = 26) → (0 ≤ ot ∧ ot ≤ 6 ∨ ot = 26) → AW mL_isStep fL_isStep loL_isStep 10 60 Q 10 60 40 h ((10, vi ot) :: (9, vi nm) :: lsa w one two three) [] := by
    intro nm ot hnm hot
    have t := tmr (x := three) (n := 7) h3.1 (by decide)
    by_cases e : three.tmod 25 = 0
    · refine AW.iload dL_isStep_40 rfl ?_
      refine AW.bipush dL_isStep_42 bp_25 (by decide) ?_
      refine AW.irem dL_isStep_44 (by omega) ?_
      refine AW.if_neF (tgt := 53) dL_isStep_45 rfl (by exact e) ?_
      refine AW.bipush dL_isStep_48 bp_26 (by decide) ?_
      refine AW.goto (tgt := 58) dL_isStep_50 rfl ?_
      refine AW.istore dL_isStep_58 rfl ?_
      exact s3 nm ot 26 hnm hot (Or.inr rfl)
    · refine AW.iload dL_isStep_40 rfl ?_
      refine AW.bipush dL_isStep_42 bp_25 (by decide) ?_
      refine AW.irem dL_isStep_44 (by omega) ?_
      refine AW.if_neT (tgt := 53) dL_isStep_45 rfl (by exact e) ?_
      refine AW.iload dL_isStep_53 rfl ?_
      refine AW.bipush dL_isStep_55 bp_7 (by decide) ?_
      refine AW.irem dL_isStep_57 (by omega) ?_
      refine AW.istore dL_isStep_58 rfl ?_
      exact s3 nm ot (three.tmod 7) hnm hot (by omega)
  have s1 : ∀ nm : Int, (0 ≤ nm ∧ nm ≤ 5 ∨ nm = 26) → AW mL_isStep fL_isStep loL_isStep 10 60 Q 10 60 20 h ((9, vi nm) :: lsa w one two three) [] := by
    intro nm hnm
    have t := tmr (x := two) (n := 7) h2.1 (by decide)
    by_cases e : two.tmod 25 = 0
    · refine AW.iload dL_isStep_20 rfl ?_
      refine AW.bipush dL_isStep_22 bp_25 (by decide) ?_
      refine AW.irem dL_isStep_24 (by omega) ?_
      refine AW.if_neF (tgt := 33) dL_isStep_25 rfl (by exact e) ?_
      refine AW.bipush dL_isStep_28 bp_26 (by decide) ?_
      refine AW.goto (tgt := 38) dL_isStep_30 rfl ?_
      refine AW.istore dL_isStep_38 rfl ?_
      exact s2 nm 26 hnm (Or.inr rfl)
    · refine AW.iload dL_isStep_20 rfl ?_
      refine AW.bipush dL_isStep_22 bp_25 (by decide) ?_
      refine AW.irem dL_isStep_24 (by omega) ?_
      refine AW.if_neT (tgt := 33) dL_isStep_25 rfl (by exact e) ?_
      refine AW.iload dL_isStep_33 rfl ?_
      refine AW.bipush dL_isStep_35 bp_7 (by decide) ?_
      refine AW.irem dL_isStep_37 (by omega) ?_
      refine AW.istore dL_isStep_38 rfl ?_
      exact s2 nm (two.tmod 7) hnm (by omega)
  have t := tmr (x := one) (n := 6) h1.1 (by decide)
  by_cases e : one.tmod 25 = 0
  · refine AW.iload dL_isStep_0 rfl ?_
    refine AW.bipush dL_isStep_2 bp_25 (by decide) ?_
    refine AW.irem dL_isStep_4 (by omega) ?_
    refine AW.if_neF (tgt := 13) dL_isStep_5 rfl (by exact e) ?_
    refine AW.bipush dL_isStep_8 bp_26 (by decide) ?_
    refine AW.goto (tgt := 18) dL_isStep_10 rfl ?_
    refine AW.istore dL_isStep_18 rfl ?_
    exact s1 26 (Or.inr rfl)
  · refine AW.iload dL_isStep_0 rfl ?_
    refine AW.bipush dL_isStep_2 bp_25 (by decide) ?_
    refine AW.irem dL_isStep_4 (by omega) ?_
    refine AW.if_neT (tgt := 13) dL_isStep_5 rfl (by exact e) ?_
    refine AW.iload dL_isStep_13 rfl ?_
    refine AW.bipush dL_isStep_15 bp_6 (by decide) ?_
    refine AW.irem dL_isStep_17 (by omega) ?_
    refine AW.istore dL_isStep_18 rfl ?_
    exact s1 (one.tmod 6) (by omega)
end D8

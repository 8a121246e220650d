/-! ===== the law's ways: the method ===== -/
section A5
variable {Q : AH → AO → Prop} {h g : AH} {Z Y : ZT}
set_option maxHeartbeats 4000000 in
theorem kL_tells0 {a : Nat} {x y : Int} (T : LT h) (S : LSc h Z) (K : QS Z) (h1 : 1 ≤ a) (ha : (a : Int) ≤ Z 1 0) (hx : -1 ≤ x ∧ x ≤ 9999) (hy : -1 ≤ y ∧ y ≤ 9999)
    (k : ∀ g, FL (fun j => j = 9) h g → hI g (la 9) 0 = zG0 Z 0 0 (a : Int) x y → hI g (la 9) 1 = zG1 Z 0 0 (a : Int) x → Q g (.inl none)) :
    AC mL_tells fL_tells loL_tells 0 0 h [vr (la 1), vr (la 2), vr (la 3), vi (a : Int), vi 0, vi x, vi y, vr (la 9)] Q := by
  have b1 := K.b1
  have b2 := K.b2
  obtain ⟨⟨q1, q2, q3, q4⟩, s, d1, d2, d3, d4⟩ := K.p h1 ha
  have x10 := (K.x h1 ha).1
  have w7 := (zw_b K h1 ha).1
  have F : FL (fun j => j = 9) h (sI (sI h (la 9) 0 (nr0 Z a 0 x y)) (la 9) 1 (nr1 Z a 0 x)) := ((FL.rf (P := fun j => j = 9)).wI rfl).wI rfl
  have R0 : -1 ≤ nr0 Z a 0 x y := nr0_b K h1 ha hx hy
  have R1 : -1 ≤ nr1 Z a 0 x := nr1_b K h1 ha (by omega) hx
  have k2 := fun G (F2 : FL (fun j => j = 9) (sI (sI h (la 9) 0 (nr0 Z a 0 x y)) (la 9) 1 (nr1 Z a 0 x)) G) (e0 : hI G (la 9) 0 = (if Z 7 a = 1 then -1 else nnd Z (nve a 0) (zsd Z a (nu 0) 0) (nr0 Z a 0 x y))) (e1 : hI G (la 9) 1 = nnd Z (nve a 0) (zsd Z a (nu 0) 1) (nr1 Z a 0 x)) => k G (F.tr F2) (e0.trans (zG0_n K h1 ha (Or.inl rfl)).symm) (e1.trans (zG1_n K h1 ha (Or.inl rfl)).symm)
  refine AC.mk (by decide) (Nat.le_of_ble_eq_true rfl) ?_
  have hw7 : Z 7 a = 0 ∨ Z 7 a = 1 ∨ Z 7 a = 2 ∨ Z 7 a = 3 ∨ Z 7 a = 4 ∨ Z 7 a = 5 ∨ Z 7 a = 6 := by omega
  unfold StK at s
  rcases hw7 with hw | hw | hw | hw | hw | hw | hw
  · rw [hw] at k2
    refine AW.aload_n dL_tells_0 rfl ?_
    refine AW.iload_n dL_tells_1 rfl ?_
    refine AW.aldIE dL_tells_2 T.a2 (by omega) (by omega) (by exact S.w (a := a) h1 ha) ?_
    refine AW.bipush dL_tells_3 bp_8 (by decide) ?_
    refine AW.irem dL_tells_5 (by omega) ?_
    refine AW.top (y := 0) (by rw [zwd_7 K h1 ha]; exact hw) ?_
    refine AW.istore dL_tells_6 rfl ?_
    refine AW.aload_n dL_tells_8 rfl ?_
    refine AW.iload_n dL_tells_9 rfl ?_
    refine AW.iload dL_tells_10 rfl ?_
    refine AW.if_neF (tgt := 19) dL_tells_12 rfl (by omega) ?_
    refine AW.iconst dL_tells_15 (by decide) ?_
    refine AW.goto (tgt := 20) dL_tells_16 rfl ?_
    refine AW.iconst dL_tells_20 (by decide) ?_
    refine AW.callS (as := [vq _, vi _, vi _, vi _]) dL_tells_21 rfl rfl rfl okL_side lkL_86 rfl rfl rfl (leb (by omega)) (leb (by omega)) rfl (kL_side T S K h1 ha (by omega) (by omega) (AW.k1 ?_))
    refine AW.top (y := Z 8 (2 * a)) zsd_10 ?_
    refine AW.istore dL_tells_24 rfl ?_
    refine AW.aload_n dL_tells_26 rfl ?_
    refine AW.iload_n dL_tells_27 rfl ?_
    refine AW.iload dL_tells_28 rfl ?_
    refine AW.if_neF (tgt := 37) dL_tells_30 rfl (by omega) ?_
    refine AW.iconst dL_tells_33 (by decide) ?_
    refine AW.goto (tgt := 38) dL_tells_34 rfl ?_
    refine AW.iconst dL_tells_38 (by decide) ?_
    refine AW.callS (as := [vq _, vi _, vi _, vi _]) dL_tells_39 rfl rfl rfl okL_side lkL_86 rfl rfl rfl (leb (by omega)) (leb (by omega)) rfl (kL_side T S K h1 ha (by omega) (by omega) (AW.k1 ?_))
    refine AW.top (y := Z 8 (2 * a + 1)) zsd_11 ?_
    refine AW.pcs (pc2 := 42) rfl ?_
    refine AW.istore dL_tells_42 rfl ?_
    refine AW.aload_n dL_tells_44 rfl ?_
    refine AW.iload_n dL_tells_45 rfl ?_
    refine AW.iload dL_tells_46 rfl ?_
    refine AW.iconst dL_tells_48 (by decide) ?_
    refine AW.callS (as := [vq _, vi _, vi _, vi _]) dL_tells_49 rfl rfl rfl okL_side lkL_86 rfl rfl rfl (leb (by omega)) (leb (by omega)) rfl (kL_side T S K h1 ha (by omega) (by omega) (AW.k1 ?_))
    refine AW.top (y := Z 9 (2 * a)) zsd_00 ?_
    refine AW.istore dL_tells_52 rfl ?_
    refine AW.iload dL_tells_54 rfl ?_
    refine AW.iload dL_tells_56 rfl ?_
    refine AW.if_eqT (tgt := 65) dL_tells_58 rfl (by omega) ?_
    refine AW.iconst dL_tells_65 (by decide) ?_
    refine AW.icmp_neT (tgt := 73) dL_tells_66 rfl (by omega) ?_
    refine AW.iconst dL_tells_73 (by decide) ?_
    refine AW.istore dL_tells_74 rfl ?_
    refine AW.iload dL_tells_76 rfl ?_
    refine AW.iload dL_tells_78 rfl ?_
    refine AW.if_eqT (tgt := 87) dL_tells_80 rfl (by omega) ?_
    refine AW.iconst dL_tells_87 (by decide) ?_
    refine AW.icmp_neT (tgt := 95) dL_tells_88 rfl (by omega) ?_
    refine AW.iconst dL_tells_95 (by decide) ?_
    refine AW.istore dL_tells_96 rfl ?_
    refine AW.aload dL_tells_98 rfl ?_
    refine AW.iconst dL_tells_100 (by decide) ?_
    refine AW.iload dL_tells_101 rfl ?_
    refine AW.pcs (pc2 := 103) rfl ?_
    refine AW.if_neF (tgt := 120) dL_tells_103 rfl (by omega) ?_
    refine AW.iload dL_tells_106 rfl ?_
    refine AW.if_eqT (tgt := 120) dL_tells_108 rfl (by omega) ?_
    refine AW.iload dL_tells_120 rfl ?_
    refine AW.iconst dL_tells_122 (by decide) ?_
    refine AW.icmp_neT (tgt := 146) dL_tells_123 rfl (by omega) ?_
    refine AW.iload dL_tells_146 rfl ?_
    refine AW.if_eqT (tgt := 171) dL_tells_148 rfl (by omega) ?_
    refine AW.iload dL_tells_171 rfl ?_
    refine AW.if_eqT (tgt := 191) dL_tells_173 rfl (by omega) ?_
    refine AW.iload dL_tells_191 rfl ?_
    refine AW.bipush dL_tells_193 bp_6 (by decide) ?_
    refine AW.icmp_neT (tgt := 203) dL_tells_195 rfl (by omega) ?_
    refine AW.iconst dL_tells_203 (by decide) ?_
    refine AW.top (y := nr0 Z a 0 x y) (by unfold nr0; rw [hw]; (repeat' split) <;> first | rfl | omega) ?_
    refine AW.astI dL_tells_204 T.a9 (by omega) (by omega) ?_
    refine AW.aload dL_tells_205 rfl ?_
    refine AW.iconst dL_tells_207 (by decide) ?_
    refine AW.iload dL_tells_208 rfl ?_
    refine AW.if_eqT (tgt := 229) dL_tells_210 rfl (by omega) ?_
    refine AW.iconst dL_tells_229 (by decide) ?_
    refine AW.top (y := nr1 Z a 0 x) (by unfold nr1; rw [hw]; (repeat' split) <;> first | rfl | omega) ?_
    refine AW.astI dL_tells_230 T.a9 (by omega) (by omega) ?_
    exact AW.locs [(13, vi _), (12, vi _), (11, vi _), (10, vi _), (9, vi _), (8, vi 0), (0, vr (la 1)), (1, vr (la 2)), (2, vr (la 3)), (3, vi (a : Int)), (4, vi 0), (5, vi x), (6, vi y), (7, vr (la 9))] ⟨rfl, rfl, rfl, rfl, rfl, rfl, rfl, rfl, rfl, rfl, rfl, rfl, rfl, rfl, trivial⟩ (L_tells_0 (F.T T) (S.fl F (by decide) (by decide) (by decide) (by decide)) K h1 ha (by omega) (by omega) (hI_m (by decide) (hI_e rfl rfl)) (hI_e rfl rfl) R0 R1 (fun z => d1 (by omega)) (fun z => d2 (by omega)) (fun G F2 e0 e1 => k2 G F2 (by rw [e0]; unfold nve nu; simp (decide := true) only [if_true, if_false, zsd_10]) (by rw [e1]; unfold nve nu; simp (decide := true) only [if_true, if_false, zsd_11])))
  · rw [hw] at k2
    refine AW.aload_n dL_tells_0 rfl ?_
    refine AW.iload_n dL_tells_1 rfl ?_
    refine AW.aldIE dL_tells_2 T.a2 (by omega) (by omega) (by exact S.w (a := a) h1 ha) ?_
    refine AW.bipush dL_tells_3 bp_8 (by decide) ?_
    refine AW.irem dL_tells_5 (by omega) ?_
    refine AW.top (y := 1) (by rw [zwd_7 K h1 ha]; exact hw) ?_
    refine AW.istore dL_tells_6 rfl ?_
    refine AW.aload_n dL_tells_8 rfl ?_
    refine AW.iload_n dL_tells_9 rfl ?_
    refine AW.iload dL_tells_10 rfl ?_
    refine AW.if_neF (tgt := 19) dL_tells_12 rfl (by omega) ?_
    refine AW.iconst dL_tells_15 (by decide) ?_
    refine AW.goto (tgt := 20) dL_tells_16 rfl ?_
    refine AW.iconst dL_tells_20 (by decide) ?_
    refine AW.callS (as := [vq _, vi _, vi _, vi _]) dL_tells_21 rfl rfl rfl okL_side lkL_86 rfl rfl rfl (leb (by omega)) (leb (by omega)) rfl (kL_side T S K h1 ha (by omega) (by omega) (AW.k1 ?_))
    refine AW.top (y := Z 8 (2 * a)) zsd_10 ?_
    refine AW.istore dL_tells_24 rfl ?_
    refine AW.aload_n dL_tells_26 rfl ?_
    refine AW.iload_n dL_tells_27 rfl ?_
    refine AW.iload dL_tells_28 rfl ?_
    refine AW.if_neF (tgt := 37) dL_tells_30 rfl (by omega) ?_
    refine AW.iconst dL_tells_33 (by decide) ?_
    refine AW.goto (tgt := 38) dL_tells_34 rfl ?_
    refine AW.iconst dL_tells_38 (by decide) ?_
    refine AW.callS (as := [vq _, vi _, vi _, vi _]) dL_tells_39 rfl rfl rfl okL_side lkL_86 rfl rfl rfl (leb (by omega)) (leb (by omega)) rfl (kL_side T S K h1 ha (by omega) (by omega) (AW.k1 ?_))
    refine AW.top (y := Z 8 (2 * a + 1)) zsd_11 ?_
    refine AW.pcs (pc2 := 42) rfl ?_
    refine AW.istore dL_tells_42 rfl ?_
    refine AW.aload_n dL_tells_44 rfl ?_
    refine AW.iload_n dL_tells_45 rfl ?_
    refine AW.iload dL_tells_46 rfl ?_
    refine AW.iconst dL_tells_48 (by decide) ?_
    refine AW.callS (as := [vq _, vi _, vi _, vi _]) dL_tells_49 rfl rfl rfl okL_side lkL_86 rfl rfl rfl (leb (by omega)) (leb (by omega)) rfl (kL_side T S K h1 ha (by omega) (by omega) (AW.k1 ?_))
    refine AW.top (y := Z 9 (2 * a)) zsd_00 ?_
    refine AW.istore dL_tells_52 rfl ?_
    refine AW.iload dL_tells_54 rfl ?_
    refine AW.iload dL_tells_56 rfl ?_
    refine AW.if_eqT (tgt := 65) dL_tells_58 rfl (by omega) ?_
    refine AW.iconst dL_tells_65 (by decide) ?_
    refine AW.icmp_neT (tgt := 73) dL_tells_66 rfl (by omega) ?_
    refine AW.iconst dL_tells_73 (by decide) ?_
    refine AW.istore dL_tells_74 rfl ?_
    refine AW.iload dL_tells_76 rfl ?_
    refine AW.iload dL_tells_78 rfl ?_
    refine AW.if_eqT (tgt := 87) dL_tells_80 rfl (by omega) ?_
    refine AW.iconst dL_tells_87 (by decide) ?_
    refine AW.icmp_neT (tgt := 95) dL_tells_88 rfl (by omega) ?_
    refine AW.iconst dL_tells_95 (by decide) ?_
    refine AW.istore dL_tells_96 rfl ?_
    refine AW.aload dL_tells_98 rfl ?_
    refine AW.iconst dL_tells_100 (by decide) ?_
    refine AW.iload dL_tells_101 rfl ?_
    refine AW.pcs (pc2 := 103) rfl ?_
    refine AW.if_neT (tgt := 120) dL_tells_103 rfl (by omega) ?_
    refine AW.iload dL_tells_120 rfl ?_
    refine AW.iconst dL_tells_122 (by decide) ?_
    refine AW.icmp_neT (tgt := 146) dL_tells_123 rfl (by omega) ?_
    refine AW.iload dL_tells_146 rfl ?_
    refine AW.if_eqT (tgt := 171) dL_tells_148 rfl (by omega) ?_
    refine AW.iload dL_tells_171 rfl ?_
    refine AW.if_eqT (tgt := 191) dL_tells_173 rfl (by omega) ?_
    refine AW.iload dL_tells_191 rfl ?_
    refine AW.bipush dL_tells_193 bp_6 (by decide) ?_
    refine AW.icmp_neT (tgt := 203) dL_tells_195 rfl (by omega) ?_
    refine AW.iconst dL_tells_203 (by decide) ?_
    refine AW.top (y := nr0 Z a 0 x y) (by unfold nr0; rw [hw]; (repeat' split) <;> first | rfl | omega) ?_
    refine AW.astI dL_tells_204 T.a9 (by omega) (by omega) ?_
    refine AW.aload dL_tells_205 rfl ?_
    refine AW.iconst dL_tells_207 (by decide) ?_
    refine AW.iload dL_tells_208 rfl ?_
    refine AW.if_eqT (tgt := 229) dL_tells_210 rfl (by omega) ?_
    refine AW.iconst dL_tells_229 (by decide) ?_
    refine AW.top (y := nr1 Z a 0 x) (by unfold nr1; rw [hw]; (repeat' split) <;> first | rfl | omega) ?_
    refine AW.astI dL_tells_230 T.a9 (by omega) (by omega) ?_
    exact AW.locs [(13, vi _), (12, vi _), (11, vi _), (10, vi _), (9, vi _), (8, vi 1), (0, vr (la 1)), (1, vr (la 2)), (2, vr (la 3)), (3, vi (a : Int)), (4, vi 0), (5, vi x), (6, vi y), (7, vr (la 9))] ⟨rfl, rfl, rfl, rfl, rfl, rfl, rfl, rfl, rfl, rfl, rfl, rfl, rfl, rfl, trivial⟩ (L_tells_0 (F.T T) (S.fl F (by decide) (by decide) (by decide) (by decide)) K h1 ha (by omega) (by omega) (hI_m (by decide) (hI_e rfl rfl)) (hI_e rfl rfl) R0 R1 (fun z => d1 (by omega)) (fun z => d2 (by omega)) (fun G F2 e0 e1 => k2 G F2 (by rw [e0]; unfold nve nu; simp (decide := true) only [if_true, if_false, zsd_10]) (by rw [e1]; unfold nve nu; simp (decide := true) only [if_true, if_false, zsd_11])))
  · rw [hw] at k2
    refine AW.aload_n dL_tells_0 rfl ?_
    refine AW.iload_n dL_tells_1 rfl ?_
    refine AW.aldIE dL_tells_2 T.a2 (by omega) (by omega) (by exact S.w (a := a) h1 ha) ?_
    refine AW.bipush dL_tells_3 bp_8 (by decide) ?_
    refine AW.irem dL_tells_5 (by omega) ?_
    refine AW.top (y := 2) (by rw [zwd_7 K h1 ha]; exact hw) ?_
    refine AW.istore dL_tells_6 rfl ?_
    refine AW.aload_n dL_tells_8 rfl ?_
    refine AW.iload_n dL_tells_9 rfl ?_
    refine AW.iload dL_tells_10 rfl ?_
    refine AW.if_neF (tgt := 19) dL_tells_12 rfl (by omega) ?_
    refine AW.iconst dL_tells_15 (by decide) ?_
    refine AW.goto (tgt := 20) dL_tells_16 rfl ?_
    refine AW.iconst dL_tells_20 (by decide) ?_
    refine AW.callS (as := [vq _, vi _, vi _, vi _]) dL_tells_21 rfl rfl rfl okL_side lkL_86 rfl rfl rfl (leb (by omega)) (leb (by omega)) rfl (kL_side T S K h1 ha (by omega) (by omega) (AW.k1 ?_))
    refine AW.top (y := Z 8 (2 * a)) zsd_10 ?_
    refine AW.istore dL_tells_24 rfl ?_
    refine AW.aload_n dL_tells_26 rfl ?_
    refine AW.iload_n dL_tells_27 rfl ?_
    refine AW.iload dL_tells_28 rfl ?_
    refine AW.if_neF (tgt := 37) dL_tells_30 rfl (by omega) ?_
    refine AW.iconst dL_tells_33 (by decide) ?_
    refine AW.goto (tgt := 38) dL_tells_34 rfl ?_
    refine AW.iconst dL_tells_38 (by decide) ?_
    refine AW.callS (as := [vq _, vi _, vi _, vi _]) dL_tells_39 rfl rfl rfl okL_side lkL_86 rfl rfl rfl (leb (by omega)) (leb (by omega)) rfl (kL_side T S K h1 ha (by omega) (by omega) (AW.k1 ?_))
    refine AW.top (y := Z 8 (2 * a + 1)) zsd_11 ?_
    refine AW.pcs (pc2 := 42) rfl ?_
    refine AW.istore dL_tells_42 rfl ?_
    refine AW.aload_n dL_tells_44 rfl ?_
    refine AW.iload_n dL_tells_45 rfl ?_
    refine AW.iload dL_tells_46 rfl ?_
    refine AW.iconst dL_tells_48 (by decide) ?_
    refine AW.callS (as := [vq _, vi _, vi _, vi _]) dL_tells_49 rfl rfl rfl okL_side lkL_86 rfl rfl rfl (leb (by omega)) (leb (by omega)) rfl (kL_side T S K h1 ha (by omega) (by omega) (AW.k1 ?_))
    refine AW.top (y := Z 9 (2 * a)) zsd_00 ?_
    refine AW.istore dL_tells_52 rfl ?_
    refine AW.iload dL_tells_54 rfl ?_
    refine AW.iload dL_tells_56 rfl ?_
    refine AW.if_eqT (tgt := 65) dL_tells_58 rfl (by omega) ?_
    refine AW.iconst dL_tells_65 (by decide) ?_
    refine AW.icmp_neT (tgt := 73) dL_tells_66 rfl (by omega) ?_
    refine AW.iconst dL_tells_73 (by decide) ?_
    refine AW.istore dL_tells_74 rfl ?_
    refine AW.iload dL_tells_76 rfl ?_
    refine AW.iload dL_tells_78 rfl ?_
    refine AW.if_eqT (tgt := 87) dL_tells_80 rfl (by omega) ?_
    refine AW.iconst dL_tells_87 (by decide) ?_
    refine AW.icmp_neT (tgt := 95) dL_tells_88 rfl (by omega) ?_
    refine AW.iconst dL_tells_95 (by decide) ?_
    refine AW.istore dL_tells_96 rfl ?_
    refine AW.aload dL_tells_98 rfl ?_
    refine AW.iconst dL_tells_100 (by decide) ?_
    refine AW.iload dL_tells_101 rfl ?_
    refine AW.pcs (pc2 := 103) rfl ?_
    refine AW.if_neT (tgt := 120) dL_tells_103 rfl (by omega) ?_
    refine AW.iload dL_tells_120 rfl ?_
    refine AW.iconst dL_tells_122 (by decide) ?_
    refine AW.icmp_neF (tgt := 146) dL_tells_123 rfl (by omega) ?_
    refine AW.iload dL_tells_126 rfl ?_
    refine AW.aload_n dL_tells_128 rfl ?_
    refine AW.iload dL_tells_129 rfl ?_
    refine AW.callS (as := [vq _, vi _]) dL_tells_131 rfl rfl rfl okL_kind lkL_90 rfl rfl rfl (leb (by omega)) (leb (by omega)) rfl (kL_kindZ T S K (by omega) (AW.k1 ?_))
    refine AW.aload_n dL_tells_134 rfl ?_
    refine AW.iload dL_tells_135 rfl ?_
    refine AW.callS (as := [vq _, vi _]) dL_tells_137 rfl rfl rfl okL_kind lkL_90 rfl rfl rfl (leb (by omega)) (leb (by omega)) rfl (kL_kindZ T S K (by omega) (AW.k1 ?_))
    refine AW.callS (as := [vi _, vi _, vi _]) dL_tells_140 rfl rfl rfl okL_turned lkL_94 rfl rfl rfl (leb (by omega)) (leb (by omega)) rfl (kL_turned hx (AW.k1 ?_))
    refine AW.goto (tgt := 204) dL_tells_143 rfl ?_
    refine AW.top (y := nr0 Z a 0 x y) (by unfold nr0; rw [hw]; (repeat' split) <;> first | rfl | omega) ?_
    refine AW.astI dL_tells_204 T.a9 (by omega) (by omega) ?_
    refine AW.aload dL_tells_205 rfl ?_
    refine AW.iconst dL_tells_207 (by decide) ?_
    refine AW.iload dL_tells_208 rfl ?_
    refine AW.if_eqT (tgt := 229) dL_tells_210 rfl (by omega) ?_
    refine AW.iconst dL_tells_229 (by decide) ?_
    refine AW.top (y := nr1 Z a 0 x) (by unfold nr1; rw [hw]; (repeat' split) <;> first | rfl | omega) ?_
    refine AW.astI dL_tells_230 T.a9 (by omega) (by omega) ?_
    exact AW.locs [(13, vi _), (12, vi _), (11, vi _), (10, vi _), (9, vi _), (8, vi 2), (0, vr (la 1)), (1, vr (la 2)), (2, vr (la 3)), (3, vi (a : Int)), (4, vi 0), (5, vi x), (6, vi y), (7, vr (la 9))] ⟨rfl, rfl, rfl, rfl, rfl, rfl, rfl, rfl, rfl, rfl, rfl, rfl, rfl, rfl, trivial⟩ (L_tells_0 (F.T T) (S.fl F (by decide) (by decide) (by decide) (by decide)) K h1 ha (by omega) (by omega) (hI_m (by decide) (hI_e rfl rfl)) (hI_e rfl rfl) R0 R1 (fun z => d1 (by omega)) (fun z => d2 (by omega)) (fun G F2 e0 e1 => k2 G F2 (by rw [e0]; unfold nve nu; simp (decide := true) only [if_true, if_false, zsd_10]) (by rw [e1]; unfold nve nu; simp (decide := true) only [if_true, if_false, zsd_11])))
  · rw [hw] at k2
    have hb := x10 (by omega)
    refine AW.aload_n dL_tells_0 rfl ?_
    refine AW.iload_n dL_tells_1 rfl ?_
    refine AW.aldIE dL_tells_2 T.a2 (by omega) (by omega) (by exact S.w (a := a) h1 ha) ?_
    refine AW.bipush dL_tells_3 bp_8 (by decide) ?_
    refine AW.irem dL_tells_5 (by omega) ?_
    refine AW.top (y := 3) (by rw [zwd_7 K h1 ha]; exact hw) ?_
    refine AW.istore dL_tells_6 rfl ?_
    refine AW.aload_n dL_tells_8 rfl ?_
    refine AW.iload_n dL_tells_9 rfl ?_
    refine AW.iload dL_tells_10 rfl ?_
    refine AW.if_neF (tgt := 19) dL_tells_12 rfl (by omega) ?_
    refine AW.iconst dL_tells_15 (by decide) ?_
    refine AW.goto (tgt := 20) dL_tells_16 rfl ?_
    refine AW.iconst dL_tells_20 (by decide) ?_
    refine AW.callS (as := [vq _, vi _, vi _, vi _]) dL_tells_21 rfl rfl rfl okL_side lkL_86 rfl rfl rfl (leb (by omega)) (leb (by omega)) rfl (kL_side T S K h1 ha (by omega) (by omega) (AW.k1 ?_))
    refine AW.top (y := Z 8 (2 * a)) zsd_10 ?_
    refine AW.istore dL_tells_24 rfl ?_
    refine AW.aload_n dL_tells_26 rfl ?_
    refine AW.iload_n dL_tells_27 rfl ?_
    refine AW.iload dL_tells_28 rfl ?_
    refine AW.if_neF (tgt := 37) dL_tells_30 rfl (by omega) ?_
    refine AW.iconst dL_tells_33 (by decide) ?_
    refine AW.goto (tgt := 38) dL_tells_34 rfl ?_
    refine AW.iconst dL_tells_38 (by decide) ?_
    refine AW.callS (as := [vq _, vi _, vi _, vi _]) dL_tells_39 rfl rfl rfl okL_side lkL_86 rfl rfl rfl (leb (by omega)) (leb (by omega)) rfl (kL_side T S K h1 ha (by omega) (by omega) (AW.k1 ?_))
    refine AW.top (y := Z 8 (2 * a + 1)) zsd_11 ?_
    refine AW.pcs (pc2 := 42) rfl ?_
    refine AW.istore dL_tells_42 rfl ?_
    refine AW.aload_n dL_tells_44 rfl ?_
    refine AW.iload_n dL_tells_45 rfl ?_
    refine AW.iload dL_tells_46 rfl ?_
    refine AW.iconst dL_tells_48 (by decide) ?_
    refine AW.callS (as := [vq _, vi _, vi _, vi _]) dL_tells_49 rfl rfl rfl okL_side lkL_86 rfl rfl rfl (leb (by omega)) (leb (by omega)) rfl (kL_side T S K h1 ha (by omega) (by omega) (AW.k1 ?_))
    refine AW.top (y := Z 9 (2 * a)) zsd_00 ?_
    refine AW.istore dL_tells_52 rfl ?_
    refine AW.iload dL_tells_54 rfl ?_
    refine AW.iload dL_tells_56 rfl ?_
    refine AW.if_eqT (tgt := 65) dL_tells_58 rfl (by omega) ?_
    refine AW.iconst dL_tells_65 (by decide) ?_
    refine AW.icmp_neT (tgt := 73) dL_tells_66 rfl (by omega) ?_
    refine AW.iconst dL_tells_73 (by decide) ?_
    refine AW.istore dL_tells_74 rfl ?_
    refine AW.iload dL_tells_76 rfl ?_
    refine AW.iload dL_tells_78 rfl ?_
    refine AW.if_eqT (tgt := 87) dL_tells_80 rfl (by omega) ?_
    refine AW.iconst dL_tells_87 (by decide) ?_
    refine AW.icmp_neF (tgt := 95) dL_tells_88 rfl (by omega) ?_
    refine AW.iconst dL_tells_91 (by decide) ?_
    refine AW.goto (tgt := 96) dL_tells_92 rfl ?_
    refine AW.istore dL_tells_96 rfl ?_
    refine AW.aload dL_tells_98 rfl ?_
    refine AW.iconst dL_tells_100 (by decide) ?_
    refine AW.pcs (pc2 := 101) rfl ?_
    refine AW.iload dL_tells_101 rfl ?_
    refine AW.if_neT (tgt := 120) dL_tells_103 rfl (by omega) ?_
    refine AW.iload dL_tells_120 rfl ?_
    refine AW.iconst dL_tells_122 (by decide) ?_
    refine AW.icmp_neT (tgt := 146) dL_tells_123 rfl (by omega) ?_
    refine AW.iload dL_tells_146 rfl ?_
    refine AW.if_eqT (tgt := 171) dL_tells_148 rfl (by omega) ?_
    refine AW.iload dL_tells_171 rfl ?_
    refine AW.if_eqF (tgt := 191) dL_tells_173 rfl (by omega) ?_
    refine AW.iload dL_tells_176 rfl ?_
    refine AW.iload dL_tells_178 rfl ?_
    refine AW.aload_n dL_tells_180 rfl ?_
    refine AW.iload_n dL_tells_181 rfl ?_
    refine AW.callS (as := [vq _, vi _]) dL_tells_182 rfl rfl rfl okL_by lkL_97 rfl rfl rfl (leb (by omega)) (leb (by omega)) rfl (kL_byZ T S K h1 ha (by omega) (AW.k1 ?_))
    refine AW.callS (as := [vi _, vi _, vi _]) dL_tells_185 rfl rfl rfl okL_joined lkL_100 rfl rfl rfl (leb (by omega)) (leb (by omega)) rfl (kL_joined hx hy (by omega) (AW.k1 ?_))
    refine AW.goto (tgt := 204) dL_tells_188 rfl ?_
    refine AW.top (y := nr0 Z a 0 x y) (by unfold nr0; rw [hw]; (repeat' split) <;> first | rfl | omega) ?_
    refine AW.astI dL_tells_204 T.a9 (by omega) (by omega) ?_
    refine AW.aload dL_tells_205 rfl ?_
    refine AW.iconst dL_tells_207 (by decide) ?_
    refine AW.iload dL_tells_208 rfl ?_
    refine AW.if_eqT (tgt := 229) dL_tells_210 rfl (by omega) ?_
    refine AW.iconst dL_tells_229 (by decide) ?_
    refine AW.top (y := nr1 Z a 0 x) (by unfold nr1; rw [hw]; (repeat' split) <;> first | rfl | omega) ?_
    refine AW.astI dL_tells_230 T.a9 (by omega) (by omega) ?_
    exact AW.locs [(13, vi _), (12, vi _), (11, vi _), (10, vi _), (9, vi _), (8, vi 3), (0, vr (la 1)), (1, vr (la 2)), (2, vr (la 3)), (3, vi (a : Int)), (4, vi 0), (5, vi x), (6, vi y), (7, vr (la 9))] ⟨rfl, rfl, rfl, rfl, rfl, rfl, rfl, rfl, rfl, rfl, rfl, rfl, rfl, rfl, trivial⟩ (L_tells_0 (F.T T) (S.fl F (by decide) (by decide) (by decide) (by decide)) K h1 ha (by omega) (by omega) (hI_m (by decide) (hI_e rfl rfl)) (hI_e rfl rfl) R0 R1 (fun z => d1 (by omega)) (fun z => d2 (by omega)) (fun G F2 e0 e1 => k2 G F2 (by rw [e0]; unfold nve nu; simp (decide := true) only [if_true, if_false, zsd_10]) (by rw [e1]; unfold nve nu; simp (decide := true) only [if_true, if_false, zsd_11])))
  · rw [hw] at k2
    have hb := x10 (by omega)
    refine AW.aload_n dL_tells_0 rfl ?_
    refine AW.iload_n dL_tells_1 rfl ?_
    refine AW.aldIE dL_tells_2 T.a2 (by omega) (by omega) (by exact S.w (a := a) h1 ha) ?_
    refine AW.bipush dL_tells_3 bp_8 (by decide) ?_
    refine AW.irem dL_tells_5 (by omega) ?_
    refine AW.top (y := 4) (by rw [zwd_7 K h1 ha]; exact hw) ?_
    refine AW.istore dL_tells_6 rfl ?_
    refine AW.aload_n dL_tells_8 rfl ?_
    refine AW.iload_n dL_tells_9 rfl ?_
    refine AW.iload dL_tells_10 rfl ?_
    refine AW.if_neF (tgt := 19) dL_tells_12 rfl (by omega) ?_
    refine AW.iconst dL_tells_15 (by decide) ?_
    refine AW.goto (tgt := 20) dL_tells_16 rfl ?_
    refine AW.iconst dL_tells_20 (by decide) ?_
    refine AW.callS (as := [vq _, vi _, vi _, vi _]) dL_tells_21 rfl rfl rfl okL_side lkL_86 rfl rfl rfl (leb (by omega)) (leb (by omega)) rfl (kL_side T S K h1 ha (by omega) (by omega) (AW.k1 ?_))
    refine AW.top (y := Z 8 (2 * a)) zsd_10 ?_
    refine AW.istore dL_tells_24 rfl ?_
    refine AW.aload_n dL_tells_26 rfl ?_
    refine AW.iload_n dL_tells_27 rfl ?_
    refine AW.iload dL_tells_28 rfl ?_
    refine AW.if_neF (tgt := 37) dL_tells_30 rfl (by omega) ?_
    refine AW.iconst dL_tells_33 (by decide) ?_
    refine AW.goto (tgt := 38) dL_tells_34 rfl ?_
    refine AW.iconst dL_tells_38 (by decide) ?_
    refine AW.callS (as := [vq _, vi _, vi _, vi _]) dL_tells_39 rfl rfl rfl okL_side lkL_86 rfl rfl rfl (leb (by omega)) (leb (by omega)) rfl (kL_side T S K h1 ha (by omega) (by omega) (AW.k1 ?_))
    refine AW.top (y := Z 8 (2 * a + 1)) zsd_11 ?_
    refine AW.pcs (pc2 := 42) rfl ?_
    refine AW.istore dL_tells_42 rfl ?_
    refine AW.aload_n dL_tells_44 rfl ?_
    refine AW.iload_n dL_tells_45 rfl ?_
    refine AW.iload dL_tells_46 rfl ?_
    refine AW.iconst dL_tells_48 (by decide) ?_
    refine AW.callS (as := [vq _, vi _, vi _, vi _]) dL_tells_49 rfl rfl rfl okL_side lkL_86 rfl rfl rfl (leb (by omega)) (leb (by omega)) rfl (kL_side T S K h1 ha (by omega) (by omega) (AW.k1 ?_))
    refine AW.top (y := Z 9 (2 * a)) zsd_00 ?_
    refine AW.istore dL_tells_52 rfl ?_
    refine AW.iload dL_tells_54 rfl ?_
    refine AW.iload dL_tells_56 rfl ?_
    refine AW.if_eqT (tgt := 65) dL_tells_58 rfl (by omega) ?_
    refine AW.iconst dL_tells_65 (by decide) ?_
    refine AW.icmp_neF (tgt := 73) dL_tells_66 rfl (by omega) ?_
    refine AW.iconst dL_tells_69 (by decide) ?_
    refine AW.goto (tgt := 74) dL_tells_70 rfl ?_
    refine AW.istore dL_tells_74 rfl ?_
    refine AW.iload dL_tells_76 rfl ?_
    refine AW.iload dL_tells_78 rfl ?_
    refine AW.if_eqT (tgt := 87) dL_tells_80 rfl (by omega) ?_
    refine AW.iconst dL_tells_87 (by decide) ?_
    refine AW.icmp_neT (tgt := 95) dL_tells_88 rfl (by omega) ?_
    refine AW.iconst dL_tells_95 (by decide) ?_
    refine AW.istore dL_tells_96 rfl ?_
    refine AW.aload dL_tells_98 rfl ?_
    refine AW.iconst dL_tells_100 (by decide) ?_
    refine AW.pcs (pc2 := 101) rfl ?_
    refine AW.iload dL_tells_101 rfl ?_
    refine AW.if_neT (tgt := 120) dL_tells_103 rfl (by omega) ?_
    refine AW.iload dL_tells_120 rfl ?_
    refine AW.iconst dL_tells_122 (by decide) ?_
    refine AW.icmp_neT (tgt := 146) dL_tells_123 rfl (by omega) ?_
    refine AW.iload dL_tells_146 rfl ?_
    refine AW.if_eqF (tgt := 171) dL_tells_148 rfl (by omega) ?_
    refine AW.iload dL_tells_151 rfl ?_
    refine' AW.if_geJ 204 (tgt := 160) dL_tells_153 rfl _ _ _
    rotate_left 2
    · intro c_153 k_153
      refine AW.iload dL_tells_160 rfl ?_
      refine AW.aload_n dL_tells_162 rfl ?_
      refine AW.iload_n dL_tells_163 rfl ?_
      refine AW.callS (as := [vq _, vi _]) dL_tells_164 rfl rfl rfl okL_by lkL_97 rfl rfl rfl (leb (by omega)) (leb (by omega)) rfl (kL_byZ T S K h1 ha (by omega) (AW.k1 ?_))
      refine AW.idiv dL_tells_167 (by omega) ?_
      refine AW.goto (tgt := 204) dL_tells_168 rfl ?_
      exact k_153
    · intro c_153 k_153
      refine AW.iconst dL_tells_156 (by decide) ?_
      refine AW.goto (tgt := 204) dL_tells_157 rfl ?_
      exact k_153
    refine AW.top (y := nr0 Z a 0 x y) (by unfold nr0; rw [hw]; (repeat' split) <;> first | rfl | omega) ?_
    refine AW.astI dL_tells_204 T.a9 (by omega) (by omega) ?_
    refine AW.aload dL_tells_205 rfl ?_
    refine AW.iconst dL_tells_207 (by decide) ?_
    refine AW.iload dL_tells_208 rfl ?_
    refine AW.if_eqF (tgt := 229) dL_tells_210 rfl (by omega) ?_
    refine AW.iload dL_tells_213 rfl ?_
    refine' AW.if_ltJ 230 (tgt := 229) dL_tells_215 rfl _ _ _
    rotate_left 2
    · intro c_215 k_215
      refine AW.iconst dL_tells_229 (by decide) ?_
      exact k_215
    · intro c_215 k_215
      refine AW.iload dL_tells_218 rfl ?_
      refine AW.aload_n dL_tells_220 rfl ?_
      refine AW.iload_n dL_tells_221 rfl ?_
      refine AW.callS (as := [vq _, vi _]) dL_tells_222 rfl rfl rfl okL_by lkL_97 rfl rfl rfl (leb (by omega)) (leb (by omega)) rfl (kL_byZ T S K h1 ha (by omega) (AW.k1 ?_))
      refine AW.irem dL_tells_225 (by omega) ?_
      refine AW.goto (tgt := 230) dL_tells_226 rfl ?_
      exact k_215
    refine AW.top (y := nr1 Z a 0 x) (by unfold nr1; rw [hw]; (repeat' split) <;> first | rfl | omega) ?_
    refine AW.astI dL_tells_230 T.a9 (by omega) (by omega) ?_
    exact AW.locs [(13, vi _), (12, vi _), (11, vi _), (10, vi _), (9, vi _), (8, vi 4), (0, vr (la 1)), (1, vr (la 2)), (2, vr (la 3)), (3, vi (a : Int)), (4, vi 0), (5, vi x), (6, vi y), (7, vr (la 9))] ⟨rfl, rfl, rfl, rfl, rfl, rfl, rfl, rfl, rfl, rfl, rfl, rfl, rfl, rfl, trivial⟩ (L_tells_0 (F.T T) (S.fl F (by decide) (by decide) (by decide) (by decide)) K h1 ha (by omega) (by omega) (hI_m (by decide) (hI_e rfl rfl)) (hI_e rfl rfl) R0 R1 (fun z => d1 (by omega)) (fun z => d2 (by omega)) (fun G F2 e0 e1 => k2 G F2 (by rw [e0]; unfold nve nu; simp (decide := true) only [if_true, if_false, zsd_10]) (by rw [e1]; unfold nve nu; simp (decide := true) only [if_true, if_false, zsd_11])))
  · rw [hw] at k2
    refine AW.aload_n dL_tells_0 rfl ?_
    refine AW.iload_n dL_tells_1 rfl ?_
    refine AW.aldIE dL_tells_2 T.a2 (by omega) (by omega) (by exact S.w (a := a) h1 ha) ?_
    refine AW.bipush dL_tells_3 bp_8 (by decide) ?_
    refine AW.irem dL_tells_5 (by omega) ?_
    refine AW.top (y := 5) (by rw [zwd_7 K h1 ha]; exact hw) ?_
    refine AW.istore dL_tells_6 rfl ?_
    refine AW.aload_n dL_tells_8 rfl ?_
    refine AW.iload_n dL_tells_9 rfl ?_
    refine AW.iload dL_tells_10 rfl ?_
    refine AW.if_neF (tgt := 19) dL_tells_12 rfl (by omega) ?_
    refine AW.iconst dL_tells_15 (by decide) ?_
    refine AW.goto (tgt := 20) dL_tells_16 rfl ?_
    refine AW.iconst dL_tells_20 (by decide) ?_
    refine AW.callS (as := [vq _, vi _, vi _, vi _]) dL_tells_21 rfl rfl rfl okL_side lkL_86 rfl rfl rfl (leb (by omega)) (leb (by omega)) rfl (kL_side T S K h1 ha (by omega) (by omega) (AW.k1 ?_))
    refine AW.top (y := Z 8 (2 * a)) zsd_10 ?_
    refine AW.istore dL_tells_24 rfl ?_
    refine AW.aload_n dL_tells_26 rfl ?_
    refine AW.iload_n dL_tells_27 rfl ?_
    refine AW.iload dL_tells_28 rfl ?_
    refine AW.if_neF (tgt := 37) dL_tells_30 rfl (by omega) ?_
    refine AW.iconst dL_tells_33 (by decide) ?_
    refine AW.goto (tgt := 38) dL_tells_34 rfl ?_
    refine AW.iconst dL_tells_38 (by decide) ?_
    refine AW.callS (as := [vq _, vi _, vi _, vi _]) dL_tells_39 rfl rfl rfl okL_side lkL_86 rfl rfl rfl (leb (by omega)) (leb (by omega)) rfl (kL_side T S K h1 ha (by omega) (by omega) (AW.k1 ?_))
    refine AW.top (y := Z 8 (2 * a + 1)) zsd_11 ?_
    refine AW.pcs (pc2 := 42) rfl ?_
    refine AW.istore dL_tells_42 rfl ?_
    refine AW.aload_n dL_tells_44 rfl ?_
    refine AW.iload_n dL_tells_45 rfl ?_
    refine AW.iload dL_tells_46 rfl ?_
    refine AW.iconst dL_tells_48 (by decide) ?_
    refine AW.callS (as := [vq _, vi _, vi _, vi _]) dL_tells_49 rfl rfl rfl okL_side lkL_86 rfl rfl rfl (leb (by omega)) (leb (by omega)) rfl (kL_side T S K h1 ha (by omega) (by omega) (AW.k1 ?_))
    refine AW.top (y := Z 9 (2 * a)) zsd_00 ?_
    refine AW.istore dL_tells_52 rfl ?_
    refine AW.iload dL_tells_54 rfl ?_
    refine AW.iload dL_tells_56 rfl ?_
    refine AW.if_eqT (tgt := 65) dL_tells_58 rfl (by omega) ?_
    refine AW.iconst dL_tells_65 (by decide) ?_
    refine AW.icmp_neT (tgt := 73) dL_tells_66 rfl (by omega) ?_
    refine AW.iconst dL_tells_73 (by decide) ?_
    refine AW.istore dL_tells_74 rfl ?_
    refine AW.iload dL_tells_76 rfl ?_
    refine AW.iload dL_tells_78 rfl ?_
    refine AW.if_eqT (tgt := 87) dL_tells_80 rfl (by omega) ?_
    refine AW.iconst dL_tells_87 (by decide) ?_
    refine AW.icmp_neT (tgt := 95) dL_tells_88 rfl (by omega) ?_
    refine AW.iconst dL_tells_95 (by decide) ?_
    refine AW.istore dL_tells_96 rfl ?_
    refine AW.aload dL_tells_98 rfl ?_
    refine AW.iconst dL_tells_100 (by decide) ?_
    refine AW.iload dL_tells_101 rfl ?_
    refine AW.pcs (pc2 := 103) rfl ?_
    refine AW.if_neT (tgt := 120) dL_tells_103 rfl (by omega) ?_
    refine AW.iload dL_tells_120 rfl ?_
    refine AW.iconst dL_tells_122 (by decide) ?_
    refine AW.icmp_neT (tgt := 146) dL_tells_123 rfl (by omega) ?_
    refine AW.iload dL_tells_146 rfl ?_
    refine AW.if_eqT (tgt := 171) dL_tells_148 rfl (by omega) ?_
    refine AW.iload dL_tells_171 rfl ?_
    refine AW.if_eqT (tgt := 191) dL_tells_173 rfl (by omega) ?_
    refine AW.iload dL_tells_191 rfl ?_
    refine AW.bipush dL_tells_193 bp_6 (by decide) ?_
    refine AW.icmp_neT (tgt := 203) dL_tells_195 rfl (by omega) ?_
    refine AW.iconst dL_tells_203 (by decide) ?_
    refine AW.top (y := nr0 Z a 0 x y) (by unfold nr0; rw [hw]; (repeat' split) <;> first | rfl | omega) ?_
    refine AW.astI dL_tells_204 T.a9 (by omega) (by omega) ?_
    refine AW.aload dL_tells_205 rfl ?_
    refine AW.iconst dL_tells_207 (by decide) ?_
    refine AW.iload dL_tells_208 rfl ?_
    refine AW.if_eqT (tgt := 229) dL_tells_210 rfl (by omega) ?_
    refine AW.iconst dL_tells_229 (by decide) ?_
    refine AW.top (y := nr1 Z a 0 x) (by unfold nr1; rw [hw]; (repeat' split) <;> first | rfl | omega) ?_
    refine AW.astI dL_tells_230 T.a9 (by omega) (by omega) ?_
    exact AW.locs [(13, vi _), (12, vi _), (11, vi _), (10, vi _), (9, vi _), (8, vi 5), (0, vr (la 1)), (1, vr (la 2)), (2, vr (la 3)), (3, vi (a : Int)), (4, vi 0), (5, vi x), (6, vi y), (7, vr (la 9))] ⟨rfl, rfl, rfl, rfl, rfl, rfl, rfl, rfl, rfl, rfl, rfl, rfl, rfl, rfl, trivial⟩ (L_tells_0 (F.T T) (S.fl F (by decide) (by decide) (by decide) (by decide)) K h1 ha (by omega) (by omega) (hI_m (by decide) (hI_e rfl rfl)) (hI_e rfl rfl) R0 R1 (fun z => d1 (by omega)) (fun z => d2 (by omega)) (fun G F2 e0 e1 => k2 G F2 (by rw [e0]; unfold nve nu; simp (decide := true) only [if_true, if_false, zsd_10]) (by rw [e1]; unfold nve nu; simp (decide := true) only [if_true, if_false, zsd_11])))
  · rw [hw] at k2
    refine AW.aload_n dL_tells_0 rfl ?_
    refine AW.iload_n dL_tells_1 rfl ?_
    refine AW.aldIE dL_tells_2 T.a2 (by omega) (by omega) (by exact S.w (a := a) h1 ha) ?_
    refine AW.bipush dL_tells_3 bp_8 (by decide) ?_
    refine AW.irem dL_tells_5 (by omega) ?_
    refine AW.top (y := 6) (by rw [zwd_7 K h1 ha]; exact hw) ?_
    refine AW.istore dL_tells_6 rfl ?_
    refine AW.aload_n dL_tells_8 rfl ?_
    refine AW.iload_n dL_tells_9 rfl ?_
    refine AW.iload dL_tells_10 rfl ?_
    refine AW.if_neF (tgt := 19) dL_tells_12 rfl (by omega) ?_
    refine AW.iconst dL_tells_15 (by decide) ?_
    refine AW.goto (tgt := 20) dL_tells_16 rfl ?_
    refine AW.iconst dL_tells_20 (by decide) ?_
    refine AW.callS (as := [vq _, vi _, vi _, vi _]) dL_tells_21 rfl rfl rfl okL_side lkL_86 rfl rfl rfl (leb (by omega)) (leb (by omega)) rfl (kL_side T S K h1 ha (by omega) (by omega) (AW.k1 ?_))
    refine AW.top (y := Z 8 (2 * a)) zsd_10 ?_
    refine AW.istore dL_tells_24 rfl ?_
    refine AW.aload_n dL_tells_26 rfl ?_
    refine AW.iload_n dL_tells_27 rfl ?_
    refine AW.iload dL_tells_28 rfl ?_
    refine AW.if_neF (tgt := 37) dL_tells_30 rfl (by omega) ?_
    refine AW.iconst dL_tells_33 (by decide) ?_
    refine AW.goto (tgt := 38) dL_tells_34 rfl ?_
    refine AW.iconst dL_tells_38 (by decide) ?_
    refine AW.callS (as := [vq _, vi _, vi _, vi _]) dL_tells_39 rfl rfl rfl okL_side lkL_86 rfl rfl rfl (leb (by omega)) (leb (by omega)) rfl (kL_side T S K h1 ha (by omega) (by omega) (AW.k1 ?_))
    refine AW.top (y := Z 8 (2 * a + 1)) zsd_11 ?_
    refine AW.pcs (pc2 := 42) rfl ?_
    refine AW.istore dL_tells_42 rfl ?_
    refine AW.aload_n dL_tells_44 rfl ?_
    refine AW.iload_n dL_tells_45 rfl ?_
    refine AW.iload dL_tells_46 rfl ?_
    refine AW.iconst dL_tells_48 (by decide) ?_
    refine AW.callS (as := [vq _, vi _, vi _, vi _]) dL_tells_49 rfl rfl rfl okL_side lkL_86 rfl rfl rfl (leb (by omega)) (leb (by omega)) rfl (kL_side T S K h1 ha (by omega) (by omega) (AW.k1 ?_))
    refine AW.top (y := Z 9 (2 * a)) zsd_00 ?_
    refine AW.istore dL_tells_52 rfl ?_
    refine AW.iload dL_tells_54 rfl ?_
    refine AW.iload dL_tells_56 rfl ?_
    refine AW.if_eqT (tgt := 65) dL_tells_58 rfl (by omega) ?_
    refine AW.iconst dL_tells_65 (by decide) ?_
    refine AW.icmp_neT (tgt := 73) dL_tells_66 rfl (by omega) ?_
    refine AW.iconst dL_tells_73 (by decide) ?_
    refine AW.istore dL_tells_74 rfl ?_
    refine AW.iload dL_tells_76 rfl ?_
    refine AW.iload dL_tells_78 rfl ?_
    refine AW.if_eqT (tgt := 87) dL_tells_80 rfl (by omega) ?_
    refine AW.iconst dL_tells_87 (by decide) ?_
    refine AW.icmp_neT (tgt := 95) dL_tells_88 rfl (by omega) ?_
    refine AW.iconst dL_tells_95 (by decide) ?_
    refine AW.istore dL_tells_96 rfl ?_
    refine AW.aload dL_tells_98 rfl ?_
    refine AW.iconst dL_tells_100 (by decide) ?_
    refine AW.iload dL_tells_101 rfl ?_
    refine AW.pcs (pc2 := 103) rfl ?_
    refine AW.if_neT (tgt := 120) dL_tells_103 rfl (by omega) ?_
    refine AW.iload dL_tells_120 rfl ?_
    refine AW.iconst dL_tells_122 (by decide) ?_
    refine AW.icmp_neT (tgt := 146) dL_tells_123 rfl (by omega) ?_
    refine AW.iload dL_tells_146 rfl ?_
    refine AW.if_eqT (tgt := 171) dL_tells_148 rfl (by omega) ?_
    refine AW.iload dL_tells_171 rfl ?_
    refine AW.if_eqT (tgt := 191) dL_tells_173 rfl (by omega) ?_
    refine AW.iload dL_tells_191 rfl ?_
    refine AW.bipush dL_tells_193 bp_6 (by decide) ?_
    refine AW.icmp_neF (tgt := 203) dL_tells_195 rfl (by omega) ?_
    refine AW.iload dL_tells_198 rfl ?_
    refine AW.goto (tgt := 204) dL_tells_200 rfl ?_
    refine AW.top (y := nr0 Z a 0 x y) (by unfold nr0; rw [hw]; (repeat' split) <;> first | rfl | omega) ?_
    refine AW.astI dL_tells_204 T.a9 (by omega) (by omega) ?_
    refine AW.aload dL_tells_205 rfl ?_
    refine AW.iconst dL_tells_207 (by decide) ?_
    refine AW.iload dL_tells_208 rfl ?_
    refine AW.if_eqT (tgt := 229) dL_tells_210 rfl (by omega) ?_
    refine AW.iconst dL_tells_229 (by decide) ?_
    refine AW.top (y := nr1 Z a 0 x) (by unfold nr1; rw [hw]; (repeat' split) <;> first | rfl | omega) ?_
    refine AW.astI dL_tells_230 T.a9 (by omega) (by omega) ?_
    exact AW.locs [(13, vi _), (12, vi _), (11, vi _), (10, vi _), (9, vi _), (8, vi 6), (0, vr (la 1)), (1, vr (la 2)), (2, vr (la 3)), (3, vi (a : Int)), (4, vi 0), (5, vi x), (6, vi y), (7, vr (la 9))] ⟨rfl, rfl, rfl, rfl, rfl, rfl, rfl, rfl, rfl, rfl, rfl, rfl, rfl, rfl, trivial⟩ (L_tells_0 (F.T T) (S.fl F (by decide) (by decide) (by decide) (by decide)) K h1 ha (by omega) (by omega) (hI_m (by decide) (hI_e rfl rfl)) (hI_e rfl rfl) R0 R1 (fun z => d1 (by omega)) (fun z => d2 (by omega)) (fun G F2 e0 e1 => k2 G F2 (by rw [e0]; unfold nve nu; simp (decide := true) only [if_true, if_false, zsd_10]) (by rw [e1]; unfold nve nu; simp (decide := true) only [if_true, if_false, zsd_11])))
set_option maxHeartbeats 4000000 in
theorem kL_tells1 {a : Nat} {x y : Int} (T : LT h) (S : LSc h Z) (K : QS Z) (h1 : 1 ≤ a) (ha : (a : Int) ≤ Z 1 0) (hx : -1 ≤ x ∧ x ≤ 9999) (hy : -1 ≤ y ∧ y ≤ 9999)
    (k : ∀ g, FL (fun j => j = 9) h g → hI g (la 9) 0 = zG0 Z 1 0 (a : Int) x y → hI g (la 9) 1 = zG1 Z 1 0 (a : Int) x → Q g (.inl none)) :
    AC mL_tells fL_tells loL_tells 0 0 h [vr (la 1), vr (la 2), vr (la 3), vi (a : Int), vi 1, vi x, vi y, vr (la 9)] Q := by
  have b1 := K.b1
  have b2 := K.b2
  obtain ⟨⟨q1, q2, q3, q4⟩, s, d1, d2, d3, d4⟩ := K.p h1 ha
  have x10 := (K.x h1 ha).1
  have w7 := (zw_b K h1 ha).1
  have F : FL (fun j => j = 9) h (sI (sI h (la 9) 0 (nr0 Z a 1 x y)) (la 9) 1 (nr1 Z a 1 x)) := ((FL.rf (P := fun j => j = 9)).wI rfl).wI rfl
  have R0 : -1 ≤ nr0 Z a 1 x y := nr0_b K h1 ha hx hy
  have R1 : -1 ≤ nr1 Z a 1 x := nr1_b K h1 ha (by omega) hx
  have k2 := fun G (F2 : FL (fun j => j = 9) (sI (sI h (la 9) 0 (nr0 Z a 1 x y)) (la 9) 1 (nr1 Z a 1 x)) G) (e0 : hI G (la 9) 0 = (if Z 7 a = 1 then -1 else nnd Z (nve a 1) (zsd Z a (nu 1) 0) (nr0 Z a 1 x y))) (e1 : hI G (la 9) 1 = nnd Z (nve a 1) (zsd Z a (nu 1) 1) (nr1 Z a 1 x)) => k G (F.tr F2) (e0.trans (zG0_n K h1 ha (Or.inr rfl)).symm) (e1.trans (zG1_n K h1 ha (Or.inr rfl)).symm)
  refine AC.mk (by decide) (Nat.le_of_ble_eq_true rfl) ?_
  have hw7 : Z 7 a = 0 ∨ Z 7 a = 1 ∨ Z 7 a = 2 ∨ Z 7 a = 3 ∨ Z 7 a = 4 ∨ Z 7 a = 5 ∨ Z 7 a = 6 := by omega
  unfold StK at s
  rcases hw7 with hw | hw | hw | hw | hw | hw | hw
  · rw [hw] at k2
    refine AW.aload_n dL_tells_0 rfl ?_
    refine AW.iload_n dL_tells_1 rfl ?_
    refine AW.aldIE dL_tells_2 T.a2 (by omega) (by omega) (by exact S.w (a := a) h1 ha) ?_
    refine AW.bipush dL_tells_3 bp_8 (by decide) ?_
    refine AW.irem dL_tells_5 (by omega) ?_
    refine AW.top (y := 0) (by rw [zwd_7 K h1 ha]; exact hw) ?_
    refine AW.istore dL_tells_6 rfl ?_
    refine AW.aload_n dL_tells_8 rfl ?_
    refine AW.iload_n dL_tells_9 rfl ?_
    refine AW.iload dL_tells_10 rfl ?_
    refine AW.if_neT (tgt := 19) dL_tells_12 rfl (by omega) ?_
    refine AW.iconst dL_tells_19 (by decide) ?_
    refine AW.iconst dL_tells_20 (by decide) ?_
    refine AW.callS (as := [vq _, vi _, vi _, vi _]) dL_tells_21 rfl rfl rfl okL_side lkL_86 rfl rfl rfl (leb (by omega)) (leb (by omega)) rfl (kL_side T S K h1 ha (by omega) (by omega) (AW.k1 ?_))
    refine AW.top (y := Z 9 (2 * a)) zsd_00 ?_
    refine AW.istore dL_tells_24 rfl ?_
    refine AW.aload_n dL_tells_26 rfl ?_
    refine AW.iload_n dL_tells_27 rfl ?_
    refine AW.iload dL_tells_28 rfl ?_
    refine AW.if_neT (tgt := 37) dL_tells_30 rfl (by omega) ?_
    refine AW.iconst dL_tells_37 (by decide) ?_
    refine AW.iconst dL_tells_38 (by decide) ?_
    refine AW.callS (as := [vq _, vi _, vi _, vi _]) dL_tells_39 rfl rfl rfl okL_side lkL_86 rfl rfl rfl (leb (by omega)) (leb (by omega)) rfl (kL_side T S K h1 ha (by omega) (by omega) (AW.k1 ?_))
    refine AW.top (y := Z 9 (2 * a + 1)) zsd_01 ?_
    refine AW.istore dL_tells_42 rfl ?_
    refine AW.aload_n dL_tells_44 rfl ?_
    refine AW.pcs (pc2 := 45) rfl ?_
    refine AW.iload_n dL_tells_45 rfl ?_
    refine AW.iload dL_tells_46 rfl ?_
    refine AW.iconst dL_tells_48 (by decide) ?_
    refine AW.callS (as := [vq _, vi _, vi _, vi _]) dL_tells_49 rfl rfl rfl okL_side lkL_86 rfl rfl rfl (leb (by omega)) (leb (by omega)) rfl (kL_side T S K h1 ha (by omega) (by omega) (AW.k1 ?_))
    refine AW.top (y := Z 8 (2 * a)) zsd_10 ?_
    refine AW.istore dL_tells_52 rfl ?_
    refine AW.iload dL_tells_54 rfl ?_
    refine AW.iload dL_tells_56 rfl ?_
    refine AW.if_eqF (tgt := 65) dL_tells_58 rfl (by omega) ?_
    refine AW.iconst dL_tells_61 (by decide) ?_
    refine AW.goto (tgt := 66) dL_tells_62 rfl ?_
    refine AW.icmp_neT (tgt := 73) dL_tells_66 rfl (by omega) ?_
    refine AW.iconst dL_tells_73 (by decide) ?_
    refine AW.istore dL_tells_74 rfl ?_
    refine AW.iload dL_tells_76 rfl ?_
    refine AW.iload dL_tells_78 rfl ?_
    refine AW.if_eqF (tgt := 87) dL_tells_80 rfl (by omega) ?_
    refine AW.iconst dL_tells_83 (by decide) ?_
    refine AW.goto (tgt := 88) dL_tells_84 rfl ?_
    refine AW.icmp_neT (tgt := 95) dL_tells_88 rfl (by omega) ?_
    refine AW.iconst dL_tells_95 (by decide) ?_
    refine AW.istore dL_tells_96 rfl ?_
    refine AW.aload dL_tells_98 rfl ?_
    refine AW.iconst dL_tells_100 (by decide) ?_
    refine AW.iload dL_tells_101 rfl ?_
    refine AW.pcs (pc2 := 103) rfl ?_
    refine AW.if_neF (tgt := 120) dL_tells_103 rfl (by omega) ?_
    refine AW.iload dL_tells_106 rfl ?_
    refine AW.if_eqF (tgt := 120) dL_tells_108 rfl (by omega) ?_
    refine AW.aload_n dL_tells_111 rfl ?_
    refine AW.iload dL_tells_112 rfl ?_
    refine AW.aldIE dL_tells_114 T.a3 (by omega) (by omega) (by exact S.f (f := (Z 9 (2 * a)).toNat) (by omega)) ?_
    refine AW.iconst dL_tells_115 (by decide) ?_
    refine AW.idiv dL_tells_116 (by omega) ?_
    rw [(f_div K (by omega)).1]
    refine AW.goto (tgt := 204) dL_tells_117 rfl ?_
    refine AW.top (y := nr0 Z a 1 x y) (by unfold nr0; rw [hw]; (repeat' split) <;> first | rfl | omega) ?_
    refine AW.astI dL_tells_204 T.a9 (by omega) (by omega) ?_
    refine AW.aload dL_tells_205 rfl ?_
    refine AW.iconst dL_tells_207 (by decide) ?_
    refine AW.iload dL_tells_208 rfl ?_
    refine AW.if_eqT (tgt := 229) dL_tells_210 rfl (by omega) ?_
    refine AW.iconst dL_tells_229 (by decide) ?_
    refine AW.top (y := nr1 Z a 1 x) (by unfold nr1; rw [hw]; (repeat' split) <;> first | rfl | omega) ?_
    refine AW.astI dL_tells_230 T.a9 (by omega) (by omega) ?_
    exact AW.locs [(13, vi _), (12, vi _), (11, vi _), (10, vi _), (9, vi _), (8, vi 0), (0, vr (la 1)), (1, vr (la 2)), (2, vr (la 3)), (3, vi (a : Int)), (4, vi 1), (5, vi x), (6, vi y), (7, vr (la 9))] ⟨rfl, rfl, rfl, rfl, rfl, rfl, rfl, rfl, rfl, rfl, rfl, rfl, rfl, rfl, trivial⟩ (L_tells_1 (F.T T) (S.fl F (by decide) (by decide) (by decide) (by decide)) K h1 ha (by omega) (by omega) (hI_m (by decide) (hI_e rfl rfl)) (hI_e rfl rfl) R0 R1 (fun z => d3 (by omega)) (fun z => d4 (by omega)) (fun G F2 e0 e1 => k2 G F2 (by rw [e0]; unfold nve nu; simp (decide := true) only [if_true, if_false, zsd_00]) (by rw [e1]; unfold nve nu; simp (decide := true) only [if_true, if_false, zsd_01])))
  · rw [hw] at k2
    refine AW.aload_n dL_tells_0 rfl ?_
    refine AW.iload_n dL_tells_1 rfl ?_
    refine AW.aldIE dL_tells_2 T.a2 (by omega) (by omega) (by exact S.w (a := a) h1 ha) ?_
    refine AW.bipush dL_tells_3 bp_8 (by decide) ?_
    refine AW.irem dL_tells_5 (by omega) ?_
    refine AW.top (y := 1) (by rw [zwd_7 K h1 ha]; exact hw) ?_
    refine AW.istore dL_tells_6 rfl ?_
    refine AW.aload_n dL_tells_8 rfl ?_
    refine AW.iload_n dL_tells_9 rfl ?_
    refine AW.iload dL_tells_10 rfl ?_
    refine AW.if_neT (tgt := 19) dL_tells_12 rfl (by omega) ?_
    refine AW.iconst dL_tells_19 (by decide) ?_
    refine AW.iconst dL_tells_20 (by decide) ?_
    refine AW.callS (as := [vq _, vi _, vi _, vi _]) dL_tells_21 rfl rfl rfl okL_side lkL_86 rfl rfl rfl (leb (by omega)) (leb (by omega)) rfl (kL_side T S K h1 ha (by omega) (by omega) (AW.k1 ?_))
    refine AW.top (y := Z 9 (2 * a)) zsd_00 ?_
    refine AW.istore dL_tells_24 rfl ?_
    refine AW.aload_n dL_tells_26 rfl ?_
    refine AW.iload_n dL_tells_27 rfl ?_
    refine AW.iload dL_tells_28 rfl ?_
    refine AW.if_neT (tgt := 37) dL_tells_30 rfl (by omega) ?_
    refine AW.iconst dL_tells_37 (by decide) ?_
    refine AW.iconst dL_tells_38 (by decide) ?_
    refine AW.callS (as := [vq _, vi _, vi _, vi _]) dL_tells_39 rfl rfl rfl okL_side lkL_86 rfl rfl rfl (leb (by omega)) (leb (by omega)) rfl (kL_side T S K h1 ha (by omega) (by omega) (AW.k1 ?_))
    refine AW.top (y := Z 9 (2 * a + 1)) zsd_01 ?_
    refine AW.istore dL_tells_42 rfl ?_
    refine AW.aload_n dL_tells_44 rfl ?_
    refine AW.pcs (pc2 := 45) rfl ?_
    refine AW.iload_n dL_tells_45 rfl ?_
    refine AW.iload dL_tells_46 rfl ?_
    refine AW.iconst dL_tells_48 (by decide) ?_
    refine AW.callS (as := [vq _, vi _, vi _, vi _]) dL_tells_49 rfl rfl rfl okL_side lkL_86 rfl rfl rfl (leb (by omega)) (leb (by omega)) rfl (kL_side T S K h1 ha (by omega) (by omega) (AW.k1 ?_))
    refine AW.top (y := Z 8 (2 * a)) zsd_10 ?_
    refine AW.istore dL_tells_52 rfl ?_
    refine AW.iload dL_tells_54 rfl ?_
    refine AW.iload dL_tells_56 rfl ?_
    refine AW.if_eqF (tgt := 65) dL_tells_58 rfl (by omega) ?_
    refine AW.iconst dL_tells_61 (by decide) ?_
    refine AW.goto (tgt := 66) dL_tells_62 rfl ?_
    refine AW.icmp_neT (tgt := 73) dL_tells_66 rfl (by omega) ?_
    refine AW.iconst dL_tells_73 (by decide) ?_
    refine AW.istore dL_tells_74 rfl ?_
    refine AW.iload dL_tells_76 rfl ?_
    refine AW.iload dL_tells_78 rfl ?_
    refine AW.if_eqF (tgt := 87) dL_tells_80 rfl (by omega) ?_
    refine AW.iconst dL_tells_83 (by decide) ?_
    refine AW.goto (tgt := 88) dL_tells_84 rfl ?_
    refine AW.icmp_neT (tgt := 95) dL_tells_88 rfl (by omega) ?_
    refine AW.iconst dL_tells_95 (by decide) ?_
    refine AW.istore dL_tells_96 rfl ?_
    refine AW.aload dL_tells_98 rfl ?_
    refine AW.iconst dL_tells_100 (by decide) ?_
    refine AW.iload dL_tells_101 rfl ?_
    refine AW.pcs (pc2 := 103) rfl ?_
    refine AW.if_neT (tgt := 120) dL_tells_103 rfl (by omega) ?_
    refine AW.iload dL_tells_120 rfl ?_
    refine AW.iconst dL_tells_122 (by decide) ?_
    refine AW.icmp_neT (tgt := 146) dL_tells_123 rfl (by omega) ?_
    refine AW.iload dL_tells_146 rfl ?_
    refine AW.if_eqT (tgt := 171) dL_tells_148 rfl (by omega) ?_
    refine AW.iload dL_tells_171 rfl ?_
    refine AW.if_eqT (tgt := 191) dL_tells_173 rfl (by omega) ?_
    refine AW.iload dL_tells_191 rfl ?_
    refine AW.bipush dL_tells_193 bp_6 (by decide) ?_
    refine AW.icmp_neT (tgt := 203) dL_tells_195 rfl (by omega) ?_
    refine AW.iconst dL_tells_203 (by decide) ?_
    refine AW.top (y := nr0 Z a 1 x y) (by unfold nr0; rw [hw]; (repeat' split) <;> first | rfl | omega) ?_
    refine AW.astI dL_tells_204 T.a9 (by omega) (by omega) ?_
    refine AW.aload dL_tells_205 rfl ?_
    refine AW.iconst dL_tells_207 (by decide) ?_
    refine AW.iload dL_tells_208 rfl ?_
    refine AW.if_eqT (tgt := 229) dL_tells_210 rfl (by omega) ?_
    refine AW.iconst dL_tells_229 (by decide) ?_
    refine AW.top (y := nr1 Z a 1 x) (by unfold nr1; rw [hw]; (repeat' split) <;> first | rfl | omega) ?_
    refine AW.astI dL_tells_230 T.a9 (by omega) (by omega) ?_
    exact AW.locs [(13, vi _), (12, vi _), (11, vi _), (10, vi _), (9, vi _), (8, vi 1), (0, vr (la 1)), (1, vr (la 2)), (2, vr (la 3)), (3, vi (a : Int)), (4, vi 1), (5, vi x), (6, vi y), (7, vr (la 9))] ⟨rfl, rfl, rfl, rfl, rfl, rfl, rfl, rfl, rfl, rfl, rfl, rfl, rfl, rfl, trivial⟩ (L_tells_1 (F.T T) (S.fl F (by decide) (by decide) (by decide) (by decide)) K h1 ha (by omega) (by omega) (hI_m (by decide) (hI_e rfl rfl)) (hI_e rfl rfl) R0 R1 (fun z => d3 (by omega)) (fun z => d4 (by omega)) (fun G F2 e0 e1 => k2 G F2 (by rw [e0]; unfold nve nu; simp (decide := true) only [if_true, if_false, zsd_00]) (by rw [e1]; unfold nve nu; simp (decide := true) only [if_true, if_false, zsd_01])))
  · rw [hw] at k2
    refine AW.aload_n dL_tells_0 rfl ?_
    refine AW.iload_n dL_tells_1 rfl ?_
    refine AW.aldIE dL_tells_2 T.a2 (by omega) (by omega) (by exact S.w (a := a) h1 ha) ?_
    refine AW.bipush dL_tells_3 bp_8 (by decide) ?_
    refine AW.irem dL_tells_5 (by omega) ?_
    refine AW.top (y := 2) (by rw [zwd_7 K h1 ha]; exact hw) ?_
    refine AW.istore dL_tells_6 rfl ?_
    refine AW.aload_n dL_tells_8 rfl ?_
    refine AW.iload_n dL_tells_9 rfl ?_
    refine AW.iload dL_tells_10 rfl ?_
    refine AW.if_neT (tgt := 19) dL_tells_12 rfl (by omega) ?_
    refine AW.iconst dL_tells_19 (by decide) ?_
    refine AW.iconst dL_tells_20 (by decide) ?_
    refine AW.callS (as := [vq _, vi _, vi _, vi _]) dL_tells_21 rfl rfl rfl okL_side lkL_86 rfl rfl rfl (leb (by omega)) (leb (by omega)) rfl (kL_side T S K h1 ha (by omega) (by omega) (AW.k1 ?_))
    refine AW.top (y := Z 9 (2 * a)) zsd_00 ?_
    refine AW.istore dL_tells_24 rfl ?_
    refine AW.aload_n dL_tells_26 rfl ?_
    refine AW.iload_n dL_tells_27 rfl ?_
    refine AW.iload dL_tells_28 rfl ?_
    refine AW.if_neT (tgt := 37) dL_tells_30 rfl (by omega) ?_
    refine AW.iconst dL_tells_37 (by decide) ?_
    refine AW.iconst dL_tells_38 (by decide) ?_
    refine AW.callS (as := [vq _, vi _, vi _, vi _]) dL_tells_39 rfl rfl rfl okL_side lkL_86 rfl rfl rfl (leb (by omega)) (leb (by omega)) rfl (kL_side T S K h1 ha (by omega) (by omega) (AW.k1 ?_))
    refine AW.top (y := Z 9 (2 * a + 1)) zsd_01 ?_
    refine AW.istore dL_tells_42 rfl ?_
    refine AW.aload_n dL_tells_44 rfl ?_
    refine AW.pcs (pc2 := 45) rfl ?_
    refine AW.iload_n dL_tells_45 rfl ?_
    refine AW.iload dL_tells_46 rfl ?_
    refine AW.iconst dL_tells_48 (by decide) ?_
    refine AW.callS (as := [vq _, vi _, vi _, vi _]) dL_tells_49 rfl rfl rfl okL_side lkL_86 rfl rfl rfl (leb (by omega)) (leb (by omega)) rfl (kL_side T S K h1 ha (by omega) (by omega) (AW.k1 ?_))
    refine AW.top (y := Z 8 (2 * a)) zsd_10 ?_
    refine AW.istore dL_tells_52 rfl ?_
    refine AW.iload dL_tells_54 rfl ?_
    refine AW.iload dL_tells_56 rfl ?_
    refine AW.if_eqF (tgt := 65) dL_tells_58 rfl (by omega) ?_
    refine AW.iconst dL_tells_61 (by decide) ?_
    refine AW.goto (tgt := 66) dL_tells_62 rfl ?_
    refine AW.icmp_neT (tgt := 73) dL_tells_66 rfl (by omega) ?_
    refine AW.iconst dL_tells_73 (by decide) ?_
    refine AW.istore dL_tells_74 rfl ?_
    refine AW.iload dL_tells_76 rfl ?_
    refine AW.iload dL_tells_78 rfl ?_
    refine AW.if_eqF (tgt := 87) dL_tells_80 rfl (by omega) ?_
    refine AW.iconst dL_tells_83 (by decide) ?_
    refine AW.goto (tgt := 88) dL_tells_84 rfl ?_
    refine AW.icmp_neT (tgt := 95) dL_tells_88 rfl (by omega) ?_
    refine AW.iconst dL_tells_95 (by decide) ?_
    refine AW.istore dL_tells_96 rfl ?_
    refine AW.aload dL_tells_98 rfl ?_
    refine AW.iconst dL_tells_100 (by decide) ?_
    refine AW.iload dL_tells_101 rfl ?_
    refine AW.pcs (pc2 := 103) rfl ?_
    refine AW.if_neT (tgt := 120) dL_tells_103 rfl (by omega) ?_
    refine AW.iload dL_tells_120 rfl ?_
    refine AW.iconst dL_tells_122 (by decide) ?_
    refine AW.icmp_neF (tgt := 146) dL_tells_123 rfl (by omega) ?_
    refine AW.iload dL_tells_126 rfl ?_
    refine AW.aload_n dL_tells_128 rfl ?_
    refine AW.iload dL_tells_129 rfl ?_
    refine AW.callS (as := [vq _, vi _]) dL_tells_131 rfl rfl rfl okL_kind lkL_90 rfl rfl rfl (leb (by omega)) (leb (by omega)) rfl (kL_kindZ T S K (by omega) (AW.k1 ?_))
    refine AW.aload_n dL_tells_134 rfl ?_
    refine AW.iload dL_tells_135 rfl ?_
    refine AW.callS (as := [vq _, vi _]) dL_tells_137 rfl rfl rfl okL_kind lkL_90 rfl rfl rfl (leb (by omega)) (leb (by omega)) rfl (kL_kindZ T S K (by omega) (AW.k1 ?_))
    refine AW.callS (as := [vi _, vi _, vi _]) dL_tells_140 rfl rfl rfl okL_turned lkL_94 rfl rfl rfl (leb (by omega)) (leb (by omega)) rfl (kL_turned hx (AW.k1 ?_))
    refine AW.goto (tgt := 204) dL_tells_143 rfl ?_
    refine AW.top (y := nr0 Z a 1 x y) (by unfold nr0; rw [hw]; (repeat' split) <;> first | rfl | omega) ?_
    refine AW.astI dL_tells_204 T.a9 (by omega) (by omega) ?_
    refine AW.aload dL_tells_205 rfl ?_
    refine AW.iconst dL_tells_207 (by decide) ?_
    refine AW.iload dL_tells_208 rfl ?_
    refine AW.if_eqT (tgt := 229) dL_tells_210 rfl (by omega) ?_
    refine AW.iconst dL_tells_229 (by decide) ?_
    refine AW.top (y := nr1 Z a 1 x) (by unfold nr1; rw [hw]; (repeat' split) <;> first | rfl | omega) ?_
    refine AW.astI dL_tells_230 T.a9 (by omega) (by omega) ?_
    exact AW.locs [(13, vi _), (12, vi _), (11, vi _), (10, vi _), (9, vi _), (8, vi 2), (0, vr (la 1)), (1, vr (la 2)), (2, vr (la 3)), (3, vi (a : Int)), (4, vi 1), (5, vi x), (6, vi y), (7, vr (la 9))] ⟨rfl, rfl, rfl, rfl, rfl, rfl, rfl, rfl, rfl, rfl, rfl, rfl, rfl, rfl, trivial⟩ (L_tells_1 (F.T T) (S.fl F (by decide) (by decide) (by decide) (by decide)) K h1 ha (by omega) (by omega) (hI_m (by decide) (hI_e rfl rfl)) (hI_e rfl rfl) R0 R1 (fun z => d3 (by omega)) (fun z => d4 (by omega)) (fun G F2 e0 e1 => k2 G F2 (by rw [e0]; unfold nve nu; simp (decide := true) only [if_true, if_false, zsd_00]) (by rw [e1]; unfold nve nu; simp (decide := true) only [if_true, if_false, zsd_01])))
  · rw [hw] at k2
    have hb := x10 (by omega)
    refine AW.aload_n dL_tells_0 rfl ?_
    refine AW.iload_n dL_tells_1 rfl ?_
    refine AW.aldIE dL_tells_2 T.a2 (by omega) (by omega) (by exact S.w (a := a) h1 ha) ?_
    refine AW.bipush dL_tells_3 bp_8 (by decide) ?_
    refine AW.irem dL_tells_5 (by omega) ?_
    refine AW.top (y := 3) (by rw [zwd_7 K h1 ha]; exact hw) ?_
    refine AW.istore dL_tells_6 rfl ?_
    refine AW.aload_n dL_tells_8 rfl ?_
    refine AW.iload_n dL_tells_9 rfl ?_
    refine AW.iload dL_tells_10 rfl ?_
    refine AW.if_neT (tgt := 19) dL_tells_12 rfl (by omega) ?_
    refine AW.iconst dL_tells_19 (by decide) ?_
    refine AW.iconst dL_tells_20 (by decide) ?_
    refine AW.callS (as := [vq _, vi _, vi _, vi _]) dL_tells_21 rfl rfl rfl okL_side lkL_86 rfl rfl rfl (leb (by omega)) (leb (by omega)) rfl (kL_side T S K h1 ha (by omega) (by omega) (AW.k1 ?_))
    refine AW.top (y := Z 9 (2 * a)) zsd_00 ?_
    refine AW.istore dL_tells_24 rfl ?_
    refine AW.aload_n dL_tells_26 rfl ?_
    refine AW.iload_n dL_tells_27 rfl ?_
    refine AW.iload dL_tells_28 rfl ?_
    refine AW.if_neT (tgt := 37) dL_tells_30 rfl (by omega) ?_
    refine AW.iconst dL_tells_37 (by decide) ?_
    refine AW.iconst dL_tells_38 (by decide) ?_
    refine AW.callS (as := [vq _, vi _, vi _, vi _]) dL_tells_39 rfl rfl rfl okL_side lkL_86 rfl rfl rfl (leb (by omega)) (leb (by omega)) rfl (kL_side T S K h1 ha (by omega) (by omega) (AW.k1 ?_))
    refine AW.top (y := Z 9 (2 * a + 1)) zsd_01 ?_
    refine AW.istore dL_tells_42 rfl ?_
    refine AW.aload_n dL_tells_44 rfl ?_
    refine AW.pcs (pc2 := 45) rfl ?_
    refine AW.iload_n dL_tells_45 rfl ?_
    refine AW.iload dL_tells_46 rfl ?_
    refine AW.iconst dL_tells_48 (by decide) ?_
    refine AW.callS (as := [vq _, vi _, vi _, vi _]) dL_tells_49 rfl rfl rfl okL_side lkL_86 rfl rfl rfl (leb (by omega)) (leb (by omega)) rfl (kL_side T S K h1 ha (by omega) (by omega) (AW.k1 ?_))
    refine AW.top (y := Z 8 (2 * a)) zsd_10 ?_
    refine AW.istore dL_tells_52 rfl ?_
    refine AW.iload dL_tells_54 rfl ?_
    refine AW.iload dL_tells_56 rfl ?_
    refine AW.if_eqF (tgt := 65) dL_tells_58 rfl (by omega) ?_
    refine AW.iconst dL_tells_61 (by decide) ?_
    refine AW.goto (tgt := 66) dL_tells_62 rfl ?_
    refine AW.icmp_neF (tgt := 73) dL_tells_66 rfl (by omega) ?_
    refine AW.iconst dL_tells_69 (by decide) ?_
    refine AW.goto (tgt := 74) dL_tells_70 rfl ?_
    refine AW.istore dL_tells_74 rfl ?_
    refine AW.iload dL_tells_76 rfl ?_
    refine AW.iload dL_tells_78 rfl ?_
    refine AW.if_eqF (tgt := 87) dL_tells_80 rfl (by omega) ?_
    refine AW.iconst dL_tells_83 (by decide) ?_
    refine AW.goto (tgt := 88) dL_tells_84 rfl ?_
    refine AW.icmp_neT (tgt := 95) dL_tells_88 rfl (by omega) ?_
    refine AW.iconst dL_tells_95 (by decide) ?_
    refine AW.istore dL_tells_96 rfl ?_
    refine AW.aload dL_tells_98 rfl ?_
    refine AW.iconst dL_tells_100 (by decide) ?_
    refine AW.pcs (pc2 := 101) rfl ?_
    refine AW.iload dL_tells_101 rfl ?_
    refine AW.if_neT (tgt := 120) dL_tells_103 rfl (by omega) ?_
    refine AW.iload dL_tells_120 rfl ?_
    refine AW.iconst dL_tells_122 (by decide) ?_
    refine AW.icmp_neT (tgt := 146) dL_tells_123 rfl (by omega) ?_
    refine AW.iload dL_tells_146 rfl ?_
    refine AW.if_eqF (tgt := 171) dL_tells_148 rfl (by omega) ?_
    refine AW.iload dL_tells_151 rfl ?_
    refine' AW.if_geJ 204 (tgt := 160) dL_tells_153 rfl _ _ _
    rotate_left 2
    · intro c_153 k_153
      refine AW.iload dL_tells_160 rfl ?_
      refine AW.aload_n dL_tells_162 rfl ?_
      refine AW.iload_n dL_tells_163 rfl ?_
      refine AW.callS (as := [vq _, vi _]) dL_tells_164 rfl rfl rfl okL_by lkL_97 rfl rfl rfl (leb (by omega)) (leb (by omega)) rfl (kL_byZ T S K h1 ha (by omega) (AW.k1 ?_))
      refine AW.idiv dL_tells_167 (by omega) ?_
      refine AW.goto (tgt := 204) dL_tells_168 rfl ?_
      exact k_153
    · intro c_153 k_153
      refine AW.iconst dL_tells_156 (by decide) ?_
      refine AW.goto (tgt := 204) dL_tells_157 rfl ?_
      exact k_153
    refine AW.top (y := nr0 Z a 1 x y) (by unfold nr0; rw [hw]; (repeat' split) <;> first | rfl | omega) ?_
    refine AW.astI dL_tells_204 T.a9 (by omega) (by omega) ?_
    refine AW.aload dL_tells_205 rfl ?_
    refine AW.iconst dL_tells_207 (by decide) ?_
    refine AW.iload dL_tells_208 rfl ?_
    refine AW.if_eqF (tgt := 229) dL_tells_210 rfl (by omega) ?_
    refine AW.iload dL_tells_213 rfl ?_
    refine' AW.if_ltJ 230 (tgt := 229) dL_tells_215 rfl _ _ _
    rotate_left 2
    · intro c_215 k_215
      refine AW.iconst dL_tells_229 (by decide) ?_
      exact k_215
    · intro c_215 k_215
      refine AW.iload dL_tells_218 rfl ?_
      refine AW.aload_n dL_tells_220 rfl ?_
      refine AW.iload_n dL_tells_221 rfl ?_
      refine AW.callS (as := [vq _, vi _]) dL_tells_222 rfl rfl rfl okL_by lkL_97 rfl rfl rfl (leb (by omega)) (leb (by omega)) rfl (kL_byZ T S K h1 ha (by omega) (AW.k1 ?_))
      refine AW.irem dL_tells_225 (by omega) ?_
      refine AW.goto (tgt := 230) dL_tells_226 rfl ?_
      exact k_215
    refine AW.top (y := nr1 Z a 1 x) (by unfold nr1; rw [hw]; (repeat' split) <;> first | rfl | omega) ?_
    refine AW.astI dL_tells_230 T.a9 (by omega) (by omega) ?_
    exact AW.locs [(13, vi _), (12, vi _), (11, vi _), (10, vi _), (9, vi _), (8, vi 3), (0, vr (la 1)), (1, vr (la 2)), (2, vr (la 3)), (3, vi (a : Int)), (4, vi 1), (5, vi x), (6, vi y), (7, vr (la 9))] ⟨rfl, rfl, rfl, rfl, rfl, rfl, rfl, rfl, rfl, rfl, rfl, rfl, rfl, rfl, trivial⟩ (L_tells_1 (F.T T) (S.fl F (by decide) (by decide) (by decide) (by decide)) K h1 ha (by omega) (by omega) (hI_m (by decide) (hI_e rfl rfl)) (hI_e rfl rfl) R0 R1 (fun z => d3 (by omega)) (fun z => d4 (by omega)) (fun G F2 e0 e1 => k2 G F2 (by rw [e0]; unfold nve nu; simp (decide := true) only [if_true, if_false, zsd_00]) (by rw [e1]; unfold nve nu; simp (decide := true) only [if_true, if_false, zsd_01])))
  · rw [hw] at k2
    have hb := x10 (by omega)
    refine AW.aload_n dL_tells_0 rfl ?_
    refine AW.iload_n dL_tells_1 rfl ?_
    refine AW.aldIE dL_tells_2 T.a2 (by omega) (by omega) (by exact S.w (a := a) h1 ha) ?_
    refine AW.bipush dL_tells_3 bp_8 (by decide) ?_
    refine AW.irem dL_tells_5 (by omega) ?_
    refine AW.top (y := 4) (by rw [zwd_7 K h1 ha]; exact hw) ?_
    refine AW.istore dL_tells_6 rfl ?_
    refine AW.aload_n dL_tells_8 rfl ?_
    refine AW.iload_n dL_tells_9 rfl ?_
    refine AW.iload dL_tells_10 rfl ?_
    refine AW.if_neT (tgt := 19) dL_tells_12 rfl (by omega) ?_
    refine AW.iconst dL_tells_19 (by decide) ?_
    refine AW.iconst dL_tells_20 (by decide) ?_
    refine AW.callS (as := [vq _, vi _, vi _, vi _]) dL_tells_21 rfl rfl rfl okL_side lkL_86 rfl rfl rfl (leb (by omega)) (leb (by omega)) rfl (kL_side T S K h1 ha (by omega) (by omega) (AW.k1 ?_))
    refine AW.top (y := Z 9 (2 * a)) zsd_00 ?_
    refine AW.istore dL_tells_24 rfl ?_
    refine AW.aload_n dL_tells_26 rfl ?_
    refine AW.iload_n dL_tells_27 rfl ?_
    refine AW.iload dL_tells_28 rfl ?_
    refine AW.if_neT (tgt := 37) dL_tells_30 rfl (by omega) ?_
    refine AW.iconst dL_tells_37 (by decide) ?_
    refine AW.iconst dL_tells_38 (by decide) ?_
    refine AW.callS (as := [vq _, vi _, vi _, vi _]) dL_tells_39 rfl rfl rfl okL_side lkL_86 rfl rfl rfl (leb (by omega)) (leb (by omega)) rfl (kL_side T S K h1 ha (by omega) (by omega) (AW.k1 ?_))
    refine AW.top (y := Z 9 (2 * a + 1)) zsd_01 ?_
    refine AW.istore dL_tells_42 rfl ?_
    refine AW.aload_n dL_tells_44 rfl ?_
    refine AW.pcs (pc2 := 45) rfl ?_
    refine AW.iload_n dL_tells_45 rfl ?_
    refine AW.iload dL_tells_46 rfl ?_
    refine AW.iconst dL_tells_48 (by decide) ?_
    refine AW.callS (as := [vq _, vi _, vi _, vi _]) dL_tells_49 rfl rfl rfl okL_side lkL_86 rfl rfl rfl (leb (by omega)) (leb (by omega)) rfl (kL_side T S K h1 ha (by omega) (by omega) (AW.k1 ?_))
    refine AW.top (y := Z 8 (2 * a)) zsd_10 ?_
    refine AW.istore dL_tells_52 rfl ?_
    refine AW.iload dL_tells_54 rfl ?_
    refine AW.iload dL_tells_56 rfl ?_
    refine AW.if_eqF (tgt := 65) dL_tells_58 rfl (by omega) ?_
    refine AW.iconst dL_tells_61 (by decide) ?_
    refine AW.goto (tgt := 66) dL_tells_62 rfl ?_
    refine AW.icmp_neT (tgt := 73) dL_tells_66 rfl (by omega) ?_
    refine AW.iconst dL_tells_73 (by decide) ?_
    refine AW.istore dL_tells_74 rfl ?_
    refine AW.iload dL_tells_76 rfl ?_
    refine AW.iload dL_tells_78 rfl ?_
    refine AW.if_eqF (tgt := 87) dL_tells_80 rfl (by omega) ?_
    refine AW.iconst dL_tells_83 (by decide) ?_
    refine AW.goto (tgt := 88) dL_tells_84 rfl ?_
    refine AW.icmp_neF (tgt := 95) dL_tells_88 rfl (by omega) ?_
    refine AW.iconst dL_tells_91 (by decide) ?_
    refine AW.goto (tgt := 96) dL_tells_92 rfl ?_
    refine AW.istore dL_tells_96 rfl ?_
    refine AW.aload dL_tells_98 rfl ?_
    refine AW.iconst dL_tells_100 (by decide) ?_
    refine AW.pcs (pc2 := 101) rfl ?_
    refine AW.iload dL_tells_101 rfl ?_
    refine AW.if_neT (tgt := 120) dL_tells_103 rfl (by omega) ?_
    refine AW.iload dL_tells_120 rfl ?_
    refine AW.iconst dL_tells_122 (by decide) ?_
    refine AW.icmp_neT (tgt := 146) dL_tells_123 rfl (by omega) ?_
    refine AW.iload dL_tells_146 rfl ?_
    refine AW.if_eqT (tgt := 171) dL_tells_148 rfl (by omega) ?_
    refine AW.iload dL_tells_171 rfl ?_
    refine AW.if_eqF (tgt := 191) dL_tells_173 rfl (by omega) ?_
    refine AW.iload dL_tells_176 rfl ?_
    refine AW.iload dL_tells_178 rfl ?_
    refine AW.aload_n dL_tells_180 rfl ?_
    refine AW.iload_n dL_tells_181 rfl ?_
    refine AW.callS (as := [vq _, vi _]) dL_tells_182 rfl rfl rfl okL_by lkL_97 rfl rfl rfl (leb (by omega)) (leb (by omega)) rfl (kL_byZ T S K h1 ha (by omega) (AW.k1 ?_))
    refine AW.callS (as := [vi _, vi _, vi _]) dL_tells_185 rfl rfl rfl okL_joined lkL_100 rfl rfl rfl (leb (by omega)) (leb (by omega)) rfl (kL_joined hx hy (by omega) (AW.k1 ?_))
    refine AW.goto (tgt := 204) dL_tells_188 rfl ?_
    refine AW.top (y := nr0 Z a 1 x y) (by unfold nr0; rw [hw]; (repeat' split) <;> first | rfl | omega) ?_
    refine AW.astI dL_tells_204 T.a9 (by omega) (by omega) ?_
    refine AW.aload dL_tells_205 rfl ?_
    refine AW.iconst dL_tells_207 (by decide) ?_
    refine AW.iload dL_tells_208 rfl ?_
    refine AW.if_eqT (tgt := 229) dL_tells_210 rfl (by omega) ?_
    refine AW.iconst dL_tells_229 (by decide) ?_
    refine AW.top (y := nr1 Z a 1 x) (by unfold nr1; rw [hw]; (repeat' split) <;> first | rfl | omega) ?_
    refine AW.astI dL_tells_230 T.a9 (by omega) (by omega) ?_
    exact AW.locs [(13, vi _), (12, vi _), (11, vi _), (10, vi _), (9, vi _), (8, vi 4), (0, vr (la 1)), (1, vr (la 2)), (2, vr (la 3)), (3, vi (a : Int)), (4, vi 1), (5, vi x), (6, vi y), (7, vr (la 9))] ⟨rfl, rfl, rfl, rfl, rfl, rfl, rfl, rfl, rfl, rfl, rfl, rfl, rfl, rfl, trivial⟩ (L_tells_1 (F.T T) (S.fl F (by decide) (by decide) (by decide) (by decide)) K h1 ha (by omega) (by omega) (hI_m (by decide) (hI_e rfl rfl)) (hI_e rfl rfl) R0 R1 (fun z => d3 (by omega)) (fun z => d4 (by omega)) (fun G F2 e0 e1 => k2 G F2 (by rw [e0]; unfold nve nu; simp (decide := true) only [if_true, if_false, zsd_00]) (by rw [e1]; unfold nve nu; simp (decide := true) only [if_true, if_false, zsd_01])))
  · rw [hw] at k2
    refine AW.aload_n dL_tells_0 rfl ?_
    refine AW.iload_n dL_tells_1 rfl ?_
    refine AW.aldIE dL_tells_2 T.a2 (by omega) (by omega) (by exact S.w (a := a) h1 ha) ?_
    refine AW.bipush dL_tells_3 bp_8 (by decide) ?_
    refine AW.irem dL_tells_5 (by omega) ?_
    refine AW.top (y := 5) (by rw [zwd_7 K h1 ha]; exact hw) ?_
    refine AW.istore dL_tells_6 rfl ?_
    refine AW.aload_n dL_tells_8 rfl ?_
    refine AW.iload_n dL_tells_9 rfl ?_
    refine AW.iload dL_tells_10 rfl ?_
    refine AW.if_neT (tgt := 19) dL_tells_12 rfl (by omega) ?_
    refine AW.iconst dL_tells_19 (by decide) ?_
    refine AW.iconst dL_tells_20 (by decide) ?_
    refine AW.callS (as := [vq _, vi _, vi _, vi _]) dL_tells_21 rfl rfl rfl okL_side lkL_86 rfl rfl rfl (leb (by omega)) (leb (by omega)) rfl (kL_side T S K h1 ha (by omega) (by omega) (AW.k1 ?_))
    refine AW.top (y := Z 9 (2 * a)) zsd_00 ?_
    refine AW.istore dL_tells_24 rfl ?_
    refine AW.aload_n dL_tells_26 rfl ?_
    refine AW.iload_n dL_tells_27 rfl ?_
    refine AW.iload dL_tells_28 rfl ?_
    refine AW.if_neT (tgt := 37) dL_tells_30 rfl (by omega) ?_
    refine AW.iconst dL_tells_37 (by decide) ?_
    refine AW.iconst dL_tells_38 (by decide) ?_
    refine AW.callS (as := [vq _, vi _, vi _, vi _]) dL_tells_39 rfl rfl rfl okL_side lkL_86 rfl rfl rfl (leb (by omega)) (leb (by omega)) rfl (kL_side T S K h1 ha (by omega) (by omega) (AW.k1 ?_))
    refine AW.top (y := Z 9 (2 * a + 1)) zsd_01 ?_
    refine AW.istore dL_tells_42 rfl ?_
    refine AW.aload_n dL_tells_44 rfl ?_
    refine AW.pcs (pc2 := 45) rfl ?_
    refine AW.iload_n dL_tells_45 rfl ?_
    refine AW.iload dL_tells_46 rfl ?_
    refine AW.iconst dL_tells_48 (by decide) ?_
    refine AW.callS (as := [vq _, vi _, vi _, vi _]) dL_tells_49 rfl rfl rfl okL_side lkL_86 rfl rfl rfl (leb (by omega)) (leb (by omega)) rfl (kL_side T S K h1 ha (by omega) (by omega) (AW.k1 ?_))
    refine AW.top (y := Z 8 (2 * a)) zsd_10 ?_
    refine AW.istore dL_tells_52 rfl ?_
    refine AW.iload dL_tells_54 rfl ?_
    refine AW.iload dL_tells_56 rfl ?_
    refine AW.if_eqF (tgt := 65) dL_tells_58 rfl (by omega) ?_
    refine AW.iconst dL_tells_61 (by decide) ?_
    refine AW.goto (tgt := 66) dL_tells_62 rfl ?_
    refine AW.icmp_neT (tgt := 73) dL_tells_66 rfl (by omega) ?_
    refine AW.iconst dL_tells_73 (by decide) ?_
    refine AW.istore dL_tells_74 rfl ?_
    refine AW.iload dL_tells_76 rfl ?_
    refine AW.iload dL_tells_78 rfl ?_
    refine AW.if_eqF (tgt := 87) dL_tells_80 rfl (by omega) ?_
    refine AW.iconst dL_tells_83 (by decide) ?_
    refine AW.goto (tgt := 88) dL_tells_84 rfl ?_
    refine AW.icmp_neT (tgt := 95) dL_tells_88 rfl (by omega) ?_
    refine AW.iconst dL_tells_95 (by decide) ?_
    refine AW.istore dL_tells_96 rfl ?_
    refine AW.aload dL_tells_98 rfl ?_
    refine AW.iconst dL_tells_100 (by decide) ?_
    refine AW.iload dL_tells_101 rfl ?_
    refine AW.pcs (pc2 := 103) rfl ?_
    refine AW.if_neT (tgt := 120) dL_tells_103 rfl (by omega) ?_
    refine AW.iload dL_tells_120 rfl ?_
    refine AW.iconst dL_tells_122 (by decide) ?_
    refine AW.icmp_neT (tgt := 146) dL_tells_123 rfl (by omega) ?_
    refine AW.iload dL_tells_146 rfl ?_
    refine AW.if_eqT (tgt := 171) dL_tells_148 rfl (by omega) ?_
    refine AW.iload dL_tells_171 rfl ?_
    refine AW.if_eqT (tgt := 191) dL_tells_173 rfl (by omega) ?_
    refine AW.iload dL_tells_191 rfl ?_
    refine AW.bipush dL_tells_193 bp_6 (by decide) ?_
    refine AW.icmp_neT (tgt := 203) dL_tells_195 rfl (by omega) ?_
    refine AW.iconst dL_tells_203 (by decide) ?_
    refine AW.top (y := nr0 Z a 1 x y) (by unfold nr0; rw [hw]; (repeat' split) <;> first | rfl | omega) ?_
    refine AW.astI dL_tells_204 T.a9 (by omega) (by omega) ?_
    refine AW.aload dL_tells_205 rfl ?_
    refine AW.iconst dL_tells_207 (by decide) ?_
    refine AW.iload dL_tells_208 rfl ?_
    refine AW.if_eqT (tgt := 229) dL_tells_210 rfl (by omega) ?_
    refine AW.iconst dL_tells_229 (by decide) ?_
    refine AW.top (y := nr1 Z a 1 x) (by unfold nr1; rw [hw]; (repeat' split) <;> first | rfl | omega) ?_
    refine AW.astI dL_tells_230 T.a9 (by omega) (by omega) ?_
    exact AW.locs [(13, vi _), (12, vi _), (11, vi _), (10, vi _), (9, vi _), (8, vi 5), (0, vr (la 1)), (1, vr (la 2)), (2, vr (la 3)), (3, vi (a : Int)), (4, vi 1), (5, vi x), (6, vi y), (7, vr (la 9))] ⟨rfl, rfl, rfl, rfl, rfl, rfl, rfl, rfl, rfl, rfl, rfl, rfl, rfl, rfl, trivial⟩ (L_tells_1 (F.T T) (S.fl F (by decide) (by decide) (by decide) (by decide)) K h1 ha (by omega) (by omega) (hI_m (by decide) (hI_e rfl rfl)) (hI_e rfl rfl) R0 R1 (fun z => d3 (by omega)) (fun z => d4 (by omega)) (fun G F2 e0 e1 => k2 G F2 (by rw [e0]; unfold nve nu; simp (decide := true) only [if_true, if_false, zsd_00]) (by rw [e1]; unfold nve nu; simp (decide := true) only [if_true, if_false, zsd_01])))
  · rw [hw] at k2
    refine AW.aload_n dL_tells_0 rfl ?_
    refine AW.iload_n dL_tells_1 rfl ?_
    refine AW.aldIE dL_tells_2 T.a2 (by omega) (by omega) (by exact S.w (a := a) h1 ha) ?_
    refine AW.bipush dL_tells_3 bp_8 (by decide) ?_
    refine AW.irem dL_tells_5 (by omega) ?_
    refine AW.top (y := 6) (by rw [zwd_7 K h1 ha]; exact hw) ?_
    refine AW.istore dL_tells_6 rfl ?_
    refine AW.aload_n dL_tells_8 rfl ?_
    refine AW.iload_n dL_tells_9 rfl ?_
    refine AW.iload dL_tells_10 rfl ?_
    refine AW.if_neT (tgt := 19) dL_tells_12 rfl (by omega) ?_
    refine AW.iconst dL_tells_19 (by decide) ?_
    refine AW.iconst dL_tells_20 (by decide) ?_
    refine AW.callS (as := [vq _, vi _, vi _, vi _]) dL_tells_21 rfl rfl rfl okL_side lkL_86 rfl rfl rfl (leb (by omega)) (leb (by omega)) rfl (kL_side T S K h1 ha (by omega) (by omega) (AW.k1 ?_))
    refine AW.top (y := Z 9 (2 * a)) zsd_00 ?_
    refine AW.istore dL_tells_24 rfl ?_
    refine AW.aload_n dL_tells_26 rfl ?_
    refine AW.iload_n dL_tells_27 rfl ?_
    refine AW.iload dL_tells_28 rfl ?_
    refine AW.if_neT (tgt := 37) dL_tells_30 rfl (by omega) ?_
    refine AW.iconst dL_tells_37 (by decide) ?_
    refine AW.iconst dL_tells_38 (by decide) ?_
    refine AW.callS (as := [vq _, vi _, vi _, vi _]) dL_tells_39 rfl rfl rfl okL_side lkL_86 rfl rfl rfl (leb (by omega)) (leb (by omega)) rfl (kL_side T S K h1 ha (by omega) (by omega) (AW.k1 ?_))
    refine AW.top (y := Z 9 (2 * a + 1)) zsd_01 ?_
    refine AW.istore dL_tells_42 rfl ?_
    refine AW.aload_n dL_tells_44 rfl ?_
    refine AW.pcs (pc2 := 45) rfl ?_
    refine AW.iload_n dL_tells_45 rfl ?_
    refine AW.iload dL_tells_46 rfl ?_
    refine AW.iconst dL_tells_48 (by decide) ?_
    refine AW.callS (as := [vq _, vi _, vi _, vi _]) dL_tells_49 rfl rfl rfl okL_side lkL_86 rfl rfl rfl (leb (by omega)) (leb (by omega)) rfl (kL_side T S K h1 ha (by omega) (by omega) (AW.k1 ?_))
    refine AW.top (y := Z 8 (2 * a)) zsd_10 ?_
    refine AW.istore dL_tells_52 rfl ?_
    refine AW.iload dL_tells_54 rfl ?_
    refine AW.iload dL_tells_56 rfl ?_
    refine AW.if_eqF (tgt := 65) dL_tells_58 rfl (by omega) ?_
    refine AW.iconst dL_tells_61 (by decide) ?_
    refine AW.goto (tgt := 66) dL_tells_62 rfl ?_
    refine AW.icmp_neT (tgt := 73) dL_tells_66 rfl (by omega) ?_
    refine AW.iconst dL_tells_73 (by decide) ?_
    refine AW.istore dL_tells_74 rfl ?_
    refine AW.iload dL_tells_76 rfl ?_
    refine AW.iload dL_tells_78 rfl ?_
    refine AW.if_eqF (tgt := 87) dL_tells_80 rfl (by omega) ?_
    refine AW.iconst dL_tells_83 (by decide) ?_
    refine AW.goto (tgt := 88) dL_tells_84 rfl ?_
    refine AW.icmp_neT (tgt := 95) dL_tells_88 rfl (by omega) ?_
    refine AW.iconst dL_tells_95 (by decide) ?_
    refine AW.istore dL_tells_96 rfl ?_
    refine AW.aload dL_tells_98 rfl ?_
    refine AW.iconst dL_tells_100 (by decide) ?_
    refine AW.iload dL_tells_101 rfl ?_
    refine AW.pcs (pc2 := 103) rfl ?_
    refine AW.if_neT (tgt := 120) dL_tells_103 rfl (by omega) ?_
    refine AW.iload dL_tells_120 rfl ?_
    refine AW.iconst dL_tells_122 (by decide) ?_
    refine AW.icmp_neT (tgt := 146) dL_tells_123 rfl (by omega) ?_
    refine AW.iload dL_tells_146 rfl ?_
    refine AW.if_eqT (tgt := 171) dL_tells_148 rfl (by omega) ?_
    refine AW.iload dL_tells_171 rfl ?_
    refine AW.if_eqT (tgt := 191) dL_tells_173 rfl (by omega) ?_
    refine AW.iload dL_tells_191 rfl ?_
    refine AW.bipush dL_tells_193 bp_6 (by decide) ?_
    refine AW.icmp_neF (tgt := 203) dL_tells_195 rfl (by omega) ?_
    refine AW.iload dL_tells_198 rfl ?_
    refine AW.goto (tgt := 204) dL_tells_200 rfl ?_
    refine AW.top (y := nr0 Z a 1 x y) (by unfold nr0; rw [hw]; (repeat' split) <;> first | rfl | omega) ?_
    refine AW.astI dL_tells_204 T.a9 (by omega) (by omega) ?_
    refine AW.aload dL_tells_205 rfl ?_
    refine AW.iconst dL_tells_207 (by decide) ?_
    refine AW.iload dL_tells_208 rfl ?_
    refine AW.if_eqT (tgt := 229) dL_tells_210 rfl (by omega) ?_
    refine AW.iconst dL_tells_229 (by decide) ?_
    refine AW.top (y := nr1 Z a 1 x) (by unfold nr1; rw [hw]; (repeat' split) <;> first | rfl | omega) ?_
    refine AW.astI dL_tells_230 T.a9 (by omega) (by omega) ?_
    exact AW.locs [(13, vi _), (12, vi _), (11, vi _), (10, vi _), (9, vi _), (8, vi 6), (0, vr (la 1)), (1, vr (la 2)), (2, vr (la 3)), (3, vi (a : Int)), (4, vi 1), (5, vi x), (6, vi y), (7, vr (la 9))] ⟨rfl, rfl, rfl, rfl, rfl, rfl, rfl, rfl, rfl, rfl, rfl, rfl, rfl, rfl, trivial⟩ (L_tells_1 (F.T T) (S.fl F (by decide) (by decide) (by decide) (by decide)) K h1 ha (by omega) (by omega) (hI_m (by decide) (hI_e rfl rfl)) (hI_e rfl rfl) R0 R1 (fun z => d3 (by omega)) (fun z => d4 (by omega)) (fun G F2 e0 e1 => k2 G F2 (by rw [e0]; unfold nve nu; simp (decide := true) only [if_true, if_false, zsd_00]) (by rw [e1]; unfold nve nu; simp (decide := true) only [if_true, if_false, zsd_01])))
theorem kL_tells {a : Nat} {u x y : Int} (T : LT h) (S : LSc h Z) (K : QS Z) (h1 : 1 ≤ a) (ha : (a : Int) ≤ Z 1 0) (hu : u = 0 ∨ u = 1) (hx : -1 ≤ x ∧ x ≤ 9999) (hy : -1 ≤ y ∧ y ≤ 9999)
    (k : ∀ g, FL (fun j => j = 9) h g → hI g (la 9) 0 = zG0 Z u 0 (a : Int) x y → hI g (la 9) 1 = zG1 Z u 0 (a : Int) x → Q g (.inl none)) :
    AC mL_tells fL_tells loL_tells 0 0 h [vr (la 1), vr (la 2), vr (la 3), vi (a : Int), vi u, vi x, vi y, vr (la 9)] Q := by
  rcases hu with rfl | rfl
  · exact kL_tells0 T S K h1 ha hx hy k
  · exact kL_tells1 T S K h1 ha hx hy k
end A5

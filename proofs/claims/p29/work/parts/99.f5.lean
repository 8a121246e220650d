/-! ===== the law's undos, whole ===== -/
section F5
variable {Q : AH → AO → Prop} {h g h1 G : AH} {Z Y : ZT} {c b L r0 mv i : Nat} {mc ms bc bs : Nat}
def U3 (mv r0 : Nat) (h g : AH) : Prop := FL (fun j => j = 5 ∨ j = 6) h g ∧ ((∀ x, ¬ (10 * r0 ≤ x ∧ x < 10 * r0 + 10) → hI g (la 5) x = hI h (la 5) x) ∧ ∀ j : Nat, j < 10 → hI g (la 5) (10 * r0 + j) = hI h (la 10) (12 * mv + j)) ∧ (∀ x, ¬ (2 * r0 ≤ x ∧ x < 2 * r0 + 2) → hI g (la 6) x = hI h (la 6) x) ∧ hI g (la 6) (2 * r0) = hI h (la 10) (12 * mv + 10) ∧ hI g (la 6) (2 * r0 + 1) = hI h (la 10) (12 * mv + 11)
theorem U1.u3 (F : U1 mv r0 10 h g) : U3 mv r0 h (sI (sI g (la 6) (2 * r0) (hI h (la 10) (12 * mv + 10))) (la 6) (2 * r0 + 1) (hI h (la 10) (12 * mv + 11))) := by
  obtain ⟨q1, q2, q3⟩ := F
  refine ⟨(((q1.mo (fun j e => Or.inl e) : FL (fun j => j = 5 ∨ j = 6) h g)).wI (j := 6) (Or.inr rfl)).wI (j := 6) (Or.inr rfl), ⟨fun x hx => ?_, fun j hj => ?_⟩, fun x hx => ?_, ?_, ?_⟩
  · rw [hI_sIla, if_neg (by omega), hI_sIla, if_neg (by omega)]; exact q2 x hx
  · rw [hI_sIla, if_neg (by omega), hI_sIla, if_neg (by omega)]; exact q3 j hj
  · rw [hI_sIla, if_neg (by omega), hI_sIla, if_neg (by omega)]; exact q1.I (by decide) _
  · rw [hI_sIla, if_neg (by omega), hI_sIla, if_pos ⟨rfl, rfl⟩]
  · rw [hI_sIla, if_pos ⟨rfl, rfl⟩]
theorem U3.fu (F : U3 mv r0 h g) (F2 : U2 mv r0 12 g G) : FU mv r0 h (sI G (la 8) (3 * mv + 2) 0) := by
  obtain ⟨q1, ⟨q2, q3⟩, q4, q5, q6⟩ := F
  obtain ⟨p1, p2, p3⟩ := F2
  refine ⟨((q1.mo (fun j e => by omega)).tr (p1.mo (fun j e => by omega))).wI (Or.inr (Or.inr (Or.inr rfl))), ⟨fun x hx => ?_, fun x hx => ?_, fun x hx => ?_⟩, ⟨fun j hj => ?_, ?_, ?_, fun w h1 h2 => ?_⟩, fun x hx => ?_, ?_⟩
  · rw [hI_sIla, if_neg (by omega), p1.I (by decide)]; exact q2 x hx
  · rw [hI_sIla, if_neg (by omega), p1.I (by decide)]; exact q4 x hx
  · show hL G (la 7) x = _
    rw [p2 x hx]; exact q1.L (by decide) x
  · rw [hI_sIla, if_neg (by omega), p1.I (by decide)]; exact q3 j hj
  · rw [hI_sIla, if_neg (by omega), p1.I (by decide)]; exact q5
  · rw [hI_sIla, if_neg (by omega), p1.I (by decide)]; exact q6
  · show hL G (la 7) (13 * r0 + w) = _
    rw [p3 w h1 h2]; exact q1.L (by decide) _
  · rw [hI_sIla, if_neg (by omega), p1.I (by decide)]; exact q1.I (by decide) x
  · rw [hI_sIla, if_pos ⟨rfl, rfl⟩]
set_option maxHeartbeats 2000000 in
theorem kL_isUndone (J : IV L h Z c b) (V : JV h Z) (hc : c ≤ 512) (hmv : (mv : Int) ≤ Z 28 0) (k : ∀ g Y, IV L g Y c b → JV g Y → Q g (.inl (some (vi 1)))) : AC mL_isUndone fL_isUndone loL_isUndone 10 60 h [vr mF, vr (la 5), vr (la 6), vr (la 7), vr (la 4), vr (la 8), vr (la 10), vr (la 11), vi (mv : Int)] Q := by
  have v2 := V.b2
  have v3 := V.b3
  refine AC.mk (by decide) (Nat.le_of_ble_eq_true rfl) ?_
  by_cases hm : (mv : Int) = Z 28 0
  · refine AW.iload dL_isUndone_0 rfl ?_
    refine AW.aload dL_isUndone_2 rfl ?_
    refine AW.iconst dL_isUndone_4 (by decide) ?_
    refine AW.aldIE dL_isUndone_5 J.T.a4 (by omega) (by omega) (by exact V.g3) ?_
    refine AW.icmp_eqT (tgt := 21) dL_isUndone_6 rfl (by omega) ?_
    refine AW.iload dL_isUndone_21 rfl ?_
    refine AW.aload dL_isUndone_23 rfl ?_
    refine AW.iconst dL_isUndone_25 (by decide) ?_
    refine AW.aldIE dL_isUndone_26 J.T.a4 (by omega) (by omega) (by exact V.g3) ?_
    refine AW.icmp_geT (tgt := 42) dL_isUndone_27 rfl (by omega) ?_
    refine AW.aload_n dL_isUndone_42 rfl ?_
    refine AW.bipush dL_isUndone_43 bp_11 (by decide) ?_
    refine AW.iload dL_isUndone_45 rfl ?_
    refine AW.iconst dL_isUndone_47 (by decide) ?_
    refine AW.iconst dL_isUndone_48 (by decide) ?_
    refine AW.iconst dL_isUndone_49 (by decide) ?_
    refine AW.iconst dL_isUndone_50 (by decide) ?_
    refine AW.callSH (as := [vq _, vi _, vi _, vi _, vi _, vi _, vi _]) dL_isUndone_51 rfl rfl rfl okL_does lkL_149 rfl rfl rfl (by omega) (by omega) rfl (q_und J hc (fun _ => (AW.k1 ?_)) (fun z => absurd z.2 (by omega)) (fun z => absurd z.2 (by omega)))
    refine AW.iload dL_isUndone_54 rfl ?_
    refine AW.aload dL_isUndone_56 rfl ?_
    refine AW.iconst dL_isUndone_58 (by decide) ?_
    refine AW.aldIE dL_isUndone_59 J.T.a4 (by omega) (by omega) (by exact V.g3) ?_
    refine AW.icmp_neF (tgt := 69) dL_isUndone_60 rfl (by omega) ?_
    refine AW.pcs (pc2 := 63) rfl ?_
    refine AW.sipush dL_isUndone_63 sp_m300 (by decide) ?_
    refine AW.goto (tgt := 71) dL_isUndone_66 rfl ?_
    refine AW.icmp_neF (tgt := 78) dL_isUndone_71 rfl (by rfl) ?_
    refine AW.iconst dL_isUndone_74 (by decide) ?_
    refine AW.goto (tgt := 79) dL_isUndone_75 rfl ?_
    refine AW.zret dL_isUndone_79 rfl ?_ ?_
    · omega
    exact k _ _ J V
  have hm' : (0 : Int) ≤ (mv : Int) ∧ (mv : Int) ≤ Z 28 0 - 1 := by omega
  rcases (V.m.1 mv (by omega)).2 with ⟨z1, z2, z3⟩ | ⟨z1, z2 | ⟨z2, U⟩⟩
  · refine AW.iload dL_isUndone_0 rfl ?_
    refine AW.aload dL_isUndone_2 rfl ?_
    refine AW.iconst dL_isUndone_4 (by decide) ?_
    refine AW.aldIE dL_isUndone_5 J.T.a4 (by omega) (by omega) (by exact V.g3) ?_
    refine AW.icmp_eqF (tgt := 21) dL_isUndone_6 rfl (by omega) ?_
    refine AW.aload dL_isUndone_9 rfl ?_
    refine AW.iconst dL_isUndone_11 (by decide) ?_
    refine AW.iload dL_isUndone_12 rfl ?_
    refine AW.imulB dL_isUndone_14 (by omega) ?_
    refine AW.iconst dL_isUndone_15 (by decide) ?_
    refine AW.iaddB dL_isUndone_16 (by omega) ?_
    refine AW.aldIE dL_isUndone_17 J.T.a8 (by omega) (by omega) (by exact hIx (by omega) z3) ?_
    refine AW.if_neF (tgt := 80) dL_isUndone_18 rfl (by rfl) ?_
    refine AW.iload dL_isUndone_21 rfl ?_
    refine AW.aload dL_isUndone_23 rfl ?_
    refine AW.iconst dL_isUndone_25 (by decide) ?_
    refine AW.aldIE dL_isUndone_26 J.T.a4 (by omega) (by omega) (by exact V.g3) ?_
    refine AW.icmp_geF (tgt := 42) dL_isUndone_27 rfl (by omega) ?_
    refine AW.aload dL_isUndone_30 rfl ?_
    refine AW.iconst dL_isUndone_32 (by decide) ?_
    refine AW.iload dL_isUndone_33 rfl ?_
    refine AW.imulB dL_isUndone_35 (by omega) ?_
    refine AW.iconst dL_isUndone_36 (by decide) ?_
    refine AW.pcs (pc2 := 37) rfl ?_
    refine AW.iaddB dL_isUndone_37 (by omega) ?_
    refine AW.aldIE dL_isUndone_38 J.T.a8 (by omega) (by omega) (by exact hIx (by omega) z1) ?_
    refine AW.if_geF (tgt := 74) dL_isUndone_39 rfl (by decide) ?_
    refine AW.aload_n dL_isUndone_42 rfl ?_
    refine AW.bipush dL_isUndone_43 bp_11 (by decide) ?_
    refine AW.iload dL_isUndone_45 rfl ?_
    refine AW.iconst dL_isUndone_47 (by decide) ?_
    refine AW.iconst dL_isUndone_48 (by decide) ?_
    refine AW.iconst dL_isUndone_49 (by decide) ?_
    refine AW.iconst dL_isUndone_50 (by decide) ?_
    refine AW.callSH (as := [vq _, vi _, vi _, vi _, vi _, vi _, vi _]) dL_isUndone_51 rfl rfl rfl okL_does lkL_149 rfl rfl rfl (by omega) (by omega) rfl (q_und J hc (fun z => absurd hm' z) (fun _ _ => (AW.k1 ?_)) (fun _ z => absurd (Or.inl (by rw [Int.toNat_natCast]; exact z2)) z))
    refine AW.iload dL_isUndone_54 rfl ?_
    refine AW.aload dL_isUndone_56 rfl ?_
    refine AW.iconst dL_isUndone_58 (by decide) ?_
    refine AW.aldIE dL_isUndone_59 J.T.a4 (by omega) (by omega) (by exact V.g3) ?_
    refine AW.icmp_neT (tgt := 69) dL_isUndone_60 rfl (by omega) ?_
    refine AW.bipush dL_isUndone_69 bp_m100 (by decide) ?_
    refine AW.icmp_neF (tgt := 78) dL_isUndone_71 rfl (by rfl) ?_
    refine AW.iconst dL_isUndone_74 (by decide) ?_
    refine AW.goto (tgt := 79) dL_isUndone_75 rfl ?_
    refine AW.zret dL_isUndone_79 rfl ?_ ?_
    · omega
    exact k _ _ J V
  · refine AW.iload dL_isUndone_0 rfl ?_
    refine AW.aload dL_isUndone_2 rfl ?_
    refine AW.iconst dL_isUndone_4 (by decide) ?_
    refine AW.aldIE dL_isUndone_5 J.T.a4 (by omega) (by omega) (by exact V.g3) ?_
    refine AW.icmp_eqF (tgt := 21) dL_isUndone_6 rfl (by omega) ?_
    refine AW.aload dL_isUndone_9 rfl ?_
    refine AW.iconst dL_isUndone_11 (by decide) ?_
    refine AW.iload dL_isUndone_12 rfl ?_
    refine AW.imulB dL_isUndone_14 (by omega) ?_
    refine AW.iconst dL_isUndone_15 (by decide) ?_
    refine AW.iaddB dL_isUndone_16 (by omega) ?_
    refine AW.aldIE dL_isUndone_17 J.T.a8 (by omega) (by omega) (by exact hIx (by omega) z2) ?_
    refine AW.if_neF (tgt := 80) dL_isUndone_18 rfl (by rfl) ?_
    refine AW.iload dL_isUndone_21 rfl ?_
    refine AW.aload dL_isUndone_23 rfl ?_
    refine AW.iconst dL_isUndone_25 (by decide) ?_
    refine AW.aldIE dL_isUndone_26 J.T.a4 (by omega) (by omega) (by exact V.g3) ?_
    refine AW.icmp_geF (tgt := 42) dL_isUndone_27 rfl (by omega) ?_
    refine AW.aload dL_isUndone_30 rfl ?_
    refine AW.iconst dL_isUndone_32 (by decide) ?_
    refine AW.iload dL_isUndone_33 rfl ?_
    refine AW.imulB dL_isUndone_35 (by omega) ?_
    refine AW.iconst dL_isUndone_36 (by decide) ?_
    refine AW.pcs (pc2 := 37) rfl ?_
    refine AW.iaddB dL_isUndone_37 (by omega) ?_
    refine AW.aldIE dL_isUndone_38 J.T.a8 (by omega) (by omega) (by exact hIx (j := 3 * mv + 1) (by omega) rfl) ?_
    refine AW.if_geT (tgt := 74) dL_isUndone_39 rfl (by omega) ?_
    refine AW.iconst dL_isUndone_74 (by decide) ?_
    refine AW.goto (tgt := 79) dL_isUndone_75 rfl ?_
    refine AW.zret dL_isUndone_79 rfl ?_ ?_
    · omega
    exact k _ _ J V
  · obtain ⟨r0, e0⟩ := Int.eq_ofNat_of_zero_le z1.1
    rw [e0, Int.toNat_natCast] at U
    rw [e0] at z1
    have hU := U
    obtain ⟨u1, u2, u3, -⟩ := hU
    refine AW.iload dL_isUndone_0 rfl ?_
    refine AW.aload dL_isUndone_2 rfl ?_
    refine AW.iconst dL_isUndone_4 (by decide) ?_
    refine AW.aldIE dL_isUndone_5 J.T.a4 (by omega) (by omega) (by exact V.g3) ?_
    refine AW.icmp_eqF (tgt := 21) dL_isUndone_6 rfl (by omega) ?_
    refine AW.aload dL_isUndone_9 rfl ?_
    refine AW.iconst dL_isUndone_11 (by decide) ?_
    refine AW.iload dL_isUndone_12 rfl ?_
    refine AW.imulB dL_isUndone_14 (by omega) ?_
    refine AW.iconst dL_isUndone_15 (by decide) ?_
    refine AW.iaddB dL_isUndone_16 (by omega) ?_
    refine AW.aldIE dL_isUndone_17 J.T.a8 (by omega) (by omega) (by exact hIx (by omega) z2) ?_
    refine AW.if_neT (tgt := 80) dL_isUndone_18 rfl (by decide) ?_
    refine AW.aload dL_isUndone_80 rfl ?_
    refine AW.iconst dL_isUndone_82 (by decide) ?_
    refine AW.iload dL_isUndone_83 rfl ?_
    refine AW.imulB dL_isUndone_85 (by omega) ?_
    refine AW.iconst dL_isUndone_86 (by decide) ?_
    refine AW.iaddB dL_isUndone_87 (by omega) ?_
    refine AW.aldIE dL_isUndone_88 J.T.a8 (by omega) (by omega) (by exact hIx (by omega) e0) ?_
    refine AW.istore dL_isUndone_89 rfl ?_
    refine AW.iconst dL_isUndone_91 (by decide) ?_
    refine AW.istore dL_isUndone_92 rfl ?_
    refine AW.locs ((10, vi ((0 : Nat) : Int)) :: (9, vi (r0 : Int)) :: lun mv) ⟨rfl, rfl, rfl, rfl, rfl, rfl, rfl, rfl, rfl, rfl, rfl, trivial⟩ (un_1 J.T (by omega) (by omega) (fun g1 F1 => ?_) 10 0 h (by omega) (by omega) ⟨FL.rf, fun _ _ => rfl, fun j hj => absurd hj (by omega)⟩)
    have T1 := F1.1.T J.T
    refine AW.aload_n dL_isUndone_128 rfl ?_
    refine AW.iconst dL_isUndone_129 (by decide) ?_
    refine AW.iload dL_isUndone_130 rfl ?_
    refine AW.imulB dL_isUndone_132 (by omega) ?_
    refine AW.aload dL_isUndone_133 rfl ?_
    refine AW.bipush dL_isUndone_135 bp_12 (by decide) ?_
    refine AW.iload dL_isUndone_137 rfl ?_
    refine AW.imulB dL_isUndone_139 (by omega) ?_
    refine AW.bipush dL_isUndone_140 bp_10 (by decide) ?_
    refine AW.iaddB dL_isUndone_142 (by omega) ?_
    refine AW.aldIE dL_isUndone_143 T1.a10 (by omega) (by omega) (by exact hIx (j := 12 * mv + 10) (by omega) (F1.1.I (by decide) _)) ?_
    refine AW.astI dL_isUndone_144 T1.a6 (by omega) (by omega) ?_
    rw [show (2 * (r0 : Int)).toNat = 2 * r0 by omega]
    refine AW.aload_n dL_isUndone_145 rfl ?_
    refine AW.iconst dL_isUndone_146 (by decide) ?_
    refine AW.iload dL_isUndone_147 rfl ?_
    refine AW.imulB dL_isUndone_149 (by omega) ?_
    refine AW.iconst dL_isUndone_150 (by decide) ?_
    refine AW.iaddB dL_isUndone_151 (by omega) ?_
    refine AW.aload dL_isUndone_152 rfl ?_
    refine AW.bipush dL_isUndone_154 bp_12 (by decide) ?_
    refine AW.iload dL_isUndone_156 rfl ?_
    refine AW.imulB dL_isUndone_158 (by omega) ?_
    refine AW.bipush dL_isUndone_159 bp_11 (by decide) ?_
    refine AW.pcs (pc2 := 161) rfl ?_
    refine AW.iaddB dL_isUndone_161 (by omega) ?_
    refine AW.aldIE dL_isUndone_162 T1.a10 (by omega) (by omega) (by exact hIx (j := 12 * mv + 11) (by omega) ((hI_sIla.trans (if_neg (by omega))).trans (F1.1.I (by decide) _))) ?_
    refine AW.astI dL_isUndone_163 T1.a6 (by omega) (by omega) ?_
    rw [show (2 * (r0 : Int) + 1).toNat = 2 * r0 + 1 by omega]
    refine AW.gen (P := fun g => U3 mv r0 h g) F1.u3 (fun g2 F2 => ?_)
    refine AW.iconst dL_isUndone_164 (by decide) ?_
    refine AW.istore dL_isUndone_165 rfl ?_
    refine AW.locs ((10, vi ((1 : Nat) : Int)) :: (9, vi (r0 : Int)) :: lun mv) ⟨rfl, rfl, rfl, rfl, rfl, rfl, rfl, rfl, rfl, rfl, rfl, trivial⟩ (un_2 (F2.1.T J.T) (by omega) (by omega) (fun g3 F3 => ?_) 11 1 g2 (by omega) (by omega) (by omega) ⟨FL.rf, fun _ _ => rfl, fun w a1 a2 => absurd a2 (by omega)⟩)
    have T3 := F3.1.T (F2.1.T J.T)
    have FF := F2.fu F3
    refine AW.aload dL_isUndone_201 rfl ?_
    refine AW.iconst dL_isUndone_203 (by decide) ?_
    refine AW.iload dL_isUndone_204 rfl ?_
    refine AW.imulB dL_isUndone_206 (by omega) ?_
    refine AW.iconst dL_isUndone_207 (by decide) ?_
    refine AW.iaddB dL_isUndone_208 (by omega) ?_
    refine AW.iconst dL_isUndone_209 (by decide) ?_
    refine AW.astI dL_isUndone_210 T3.a8 (by omega) (by omega) ?_
    rw [show (3 * (mv : Int) + 2).toNat = 3 * mv + 2 by omega]
    refine AW.aload_n dL_isUndone_211 rfl ?_
    refine AW.bipush dL_isUndone_212 bp_11 (by decide) ?_
    refine AW.iload dL_isUndone_214 rfl ?_
    refine AW.iconst dL_isUndone_216 (by decide) ?_
    refine AW.iconst dL_isUndone_217 (by decide) ?_
    refine AW.iconst dL_isUndone_218 (by decide) ?_
    refine AW.iconst dL_isUndone_219 (by decide) ?_
    refine AW.callSH (as := [vq _, vi _, vi _, vi _, vi _, vi _, vi _]) dL_isUndone_220 rfl rfl rfl okL_does lkL_149 rfl rfl rfl (by omega) (by omega) rfl (q_und (J.fl FF.1) hc (fun z => absurd hm' z) (fun _ z => absurd z (fun z => z.elim (fun z => by rw [Int.toNat_natCast] at z; omega) (fun z => z (by rw [Int.toNat_natCast, u2, Int.toNat_natCast]; exact u3)))) (fun _ _ g5 S5 I5 Fr5 => (AW.k1 ?_)))
    refine AW.top (y := (r0 : Int)) (by rw [Int.toNat_natCast]; exact u2) ?_
    refine AW.iload dL_isUndone_223 rfl ?_
    refine AW.icmp_neF (tgt := 232) dL_isUndone_225 rfl (by rfl) ?_
    refine AW.iconst dL_isUndone_228 (by decide) ?_
    refine AW.goto (tgt := 233) dL_isUndone_229 rfl ?_
    refine AW.zret dL_isUndone_233 rfl ?_ ?_
    · omega
    rw [Int.toNat_natCast] at S5 I5
    have q := und_go J V (by omega) z1.2 e0 z2 U FF S5 I5 Fr5
    exact k _ _ q.1 q.2
end F5

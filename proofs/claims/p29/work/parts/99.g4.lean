/-! ===== the law's moves by movers: the row, the copies ===== -/
section G4
variable {Q : AH → AO → Prop} {h g h1 G : AH} {Z Y : ZT} {c b L r0 mv i : Nat} {mc ms bc bs : Nat}
theorem q_stp (J : IV L h Z c b) (hc : c < 512) {m x2 x3 x4 x5 : Int} (kX : ¬ (0 ≤ m ∧ m ≤ Z 28 0 - 1) → Q h (.inl (some (vi (-300))))) (kS : (0 ≤ m ∧ m ≤ Z 28 0 - 1) → znx Z m = -1 → Q h (.inl (some (vi (-100)))))
    (k0 : (0 ≤ m ∧ m ≤ Z 28 0 - 1) → ¬ znx Z m = -1 → ∀ g, SIM g (zStp Z (znx Z m) m) (c + 1) → ZI (zStp Z (znx Z m) m) → Fr nMo h g → Q g (.inl (some (vi (znx Z m))))) : AC mL_does fL_does loL_does 7 240 h [vr mF, vi 10, vi m, vi x2, vi x3, vi x4, vi x5] Q := by
  refine kL_does_step J.F ?_
  by_cases hm : 0 ≤ m ∧ m ≤ Z 28 0 - 1
  · by_cases hs : znx Z m = -1
    · have e : zcStp Z m = 2 := cd2_2 (fun z => z hm) hs
      exact sX7_step J.S J.I.1 hc (fun z => by rw [e] at z; cases z) (fun _ => ⟨-100, by decide, kS hm hs⟩) (fun z => by rw [e] at z; cases z)
    · have e : zcStp Z m = 0 := cd2_z (fun z => z hm) hs
      exact sX7_step J.S J.I.1 hc (fun z => by rw [e] at z; cases z) (fun z => by rw [e] at z; cases z) (fun _ g S F => k0 hm hs g S (zi_stp J.I J.S hc (by omega) e S) F)
  · have e : zcStp Z m = 1 := cd2_1 hm
    exact sX7_step J.S J.I.1 hc (fun _ => ⟨-300, by decide, kX hm⟩) (fun z => by rw [e] at z; cases z) (fun z => by rw [e] at z; cases z)
abbrev lmo (mv : Nat) : AL := [(0, vr mF), (1, vr (la 1)), (2, vr (la 2)), (3, vr (la 3)), (4, vr (la 4)), (5, vr (la 5)), (6, vr (la 6)), (7, vr (la 7)), (8, vr (la 8)), (9, vr (la 9)), (10, vr (la 10)), (11, vr (la 11)), (12, vi (mv : Int))]
set_option maxHeartbeats 2000000 in
/-- the row farthest off -/
theorem mo_1 (T : LT h) (K : QS Z) (V : JV h Z) (hm : (mv : Int) < Z 28 0) (k : AW mL_isMoved fL_isMoved loL_isMoved mc ms Q bc bs 121 h ((13, vi (znx Z (mv : Int))) :: lmo mv) []) : ∀ (m i : Nat), (i : Int) ≤ Z 19 0 → Z 19 0 ≤ (i : Int) + m → AW mL_isMoved fL_isMoved loL_isMoved mc ms Q bc bs 42 h ((15, vi (i : Int)) :: (14, vi (zfar Z (mv : Int) i)) :: (13, vi (znxA Z (mv : Int) i)) :: lmo mv) [] := by
  have b1 := K.b1
  have v2 := V.b2
  have v3 := V.b3
  have m0 := (V.m.1 mv hm).1
  intro m
  induction m with
  | zero =>
    intro i h1 h2
    have e : (Z 19 0).toNat = i := by omega
    have ez : znx Z (mv : Int) = znxA Z (mv : Int) i := by unfold znx; rw [e]
    rw [ez] at k
    refine AW.iload dL_isMoved_42 rfl ?_
    refine AW.aload dL_isMoved_44 rfl ?_
    refine AW.iconst dL_isMoved_46 (by decide) ?_
    refine AW.aldIE dL_isMoved_47 T.a4 (by omega) (by omega) (by exact V.g2) ?_
    refine AW.icmp_geT (tgt := 121) dL_isMoved_48 rfl (by omega) ?_
    exact AW.locs ((13, vi (znxA Z (mv : Int) i)) :: lmo mv) ⟨rfl, rfl, rfl, rfl, rfl, rfl, rfl, rfl, rfl, rfl, rfl, rfl, rfl, rfl, trivial⟩ k
  | succ m ih =>
    intro i h1 h2
    by_cases e : (i : Int) = Z 19 0
    · exact ih i h1 (by omega)
    have hi : (i : Int) < Z 19 0 := by omega
    obtain ⟨R, B, h20⟩ := V.r hi
    have bv := B.v
    obtain ⟨e1, e2⟩ := zfar_s (Z := Z) (m := mv) (i := i)
    have q := ih (i + 1) (by omega) (by omega)
    have eo : zoff Z (i : Int) (mv : Int) = if Z 21 i - Z 30 mv < 0 then -(Z 21 i - Z 30 mv) else Z 21 i - Z 30 mv := by unfold zoff; rw [Int.toNat_natCast, Int.toNat_natCast]
    by_cases c1 : Z 21 i - Z 30 mv < 0
    · rw [if_pos c1] at eo
      by_cases w : zfar Z (mv : Int) i < zoff Z (i : Int) (mv : Int)
      · rw [if_pos ⟨by rw [h20, m0.2.1], w⟩] at e1 e2
        rw [eo] at w e2
        rw [e1, e2] at q
        refine AW.iload dL_isMoved_42 rfl ?_
        refine AW.aload dL_isMoved_44 rfl ?_
        refine AW.iconst dL_isMoved_46 (by decide) ?_
        refine AW.aldIE dL_isMoved_47 T.a4 (by omega) (by omega) (by exact V.g2) ?_
        refine AW.icmp_geF (tgt := 121) dL_isMoved_48 rfl (by omega) ?_
        refine AW.aload dL_isMoved_51 rfl ?_
        refine AW.iconst dL_isMoved_53 (by decide) ?_
        refine AW.iload dL_isMoved_54 rfl ?_
        refine AW.imulB dL_isMoved_56 (by omega) ?_
        refine AW.aldIE dL_isMoved_57 T.a6 (by omega) (by omega) (by exact hIx (by omega) R.y0) ?_
        refine AW.aload dL_isMoved_58 rfl ?_
        refine AW.iconst dL_isMoved_60 (by decide) ?_
        refine AW.iload dL_isMoved_61 rfl ?_
        refine AW.imulB dL_isMoved_63 (by omega) ?_
        refine AW.aldIE dL_isMoved_64 T.a8 (by omega) (by omega) (by exact hIx (by omega) m0.1) ?_
        refine AW.isubB dL_isMoved_65 (by omega) ?_
        refine AW.istore dL_isMoved_66 rfl ?_
        refine AW.iload dL_isMoved_68 rfl ?_
        refine AW.if_geF (tgt := 79) dL_isMoved_70 rfl (by exact c1) ?_
        refine AW.iload dL_isMoved_73 rfl ?_
        refine AW.inegB dL_isMoved_75 (by omega) ?_
        refine AW.goto (tgt := 81) dL_isMoved_76 rfl ?_
        refine AW.istore dL_isMoved_81 rfl ?_
        refine AW.pcs (pc2 := 83) rfl ?_
        refine AW.iload dL_isMoved_83 rfl ?_
        refine AW.iload dL_isMoved_85 rfl ?_
        refine AW.icmp_leF (tgt := 95) dL_isMoved_87 rfl (by omega) ?_
        refine AW.iload dL_isMoved_90 rfl ?_
        refine AW.goto (tgt := 97) dL_isMoved_92 rfl ?_
        refine AW.istore dL_isMoved_97 rfl ?_
        refine AW.iload dL_isMoved_99 rfl ?_
        refine AW.iload dL_isMoved_101 rfl ?_
        refine AW.icmp_leF (tgt := 111) dL_isMoved_103 rfl (by omega) ?_
        refine AW.iload dL_isMoved_106 rfl ?_
        refine AW.goto (tgt := 113) dL_isMoved_108 rfl ?_
        refine AW.istore dL_isMoved_113 rfl ?_
        refine AW.iincB dL_isMoved_115 rfl rfl (by omega) ?_
        refine AW.goto (tgt := 42) dL_isMoved_118 rfl ?_
        exact AW.locs ((15, vi ((i + 1 : Nat) : Int)) :: (14, vi (-(Z 21 i - Z 30 mv))) :: (13, vi (i : Int)) :: lmo mv) ⟨rfl, rfl, rfl, rfl, rfl, rfl, rfl, rfl, rfl, rfl, rfl, rfl, rfl, rfl, rfl, rfl, trivial⟩ q
      · rw [if_neg (fun z => w z.2)] at e1 e2
        rw [eo] at w
        rw [e1, e2] at q
        refine AW.iload dL_isMoved_42 rfl ?_
        refine AW.aload dL_isMoved_44 rfl ?_
        refine AW.iconst dL_isMoved_46 (by decide) ?_
        refine AW.aldIE dL_isMoved_47 T.a4 (by omega) (by omega) (by exact V.g2) ?_
        refine AW.icmp_geF (tgt := 121) dL_isMoved_48 rfl (by omega) ?_
        refine AW.aload dL_isMoved_51 rfl ?_
        refine AW.iconst dL_isMoved_53 (by decide) ?_
        refine AW.iload dL_isMoved_54 rfl ?_
        refine AW.imulB dL_isMoved_56 (by omega) ?_
        refine AW.aldIE dL_isMoved_57 T.a6 (by omega) (by omega) (by exact hIx (by omega) R.y0) ?_
        refine AW.aload dL_isMoved_58 rfl ?_
        refine AW.iconst dL_isMoved_60 (by decide) ?_
        refine AW.iload dL_isMoved_61 rfl ?_
        refine AW.imulB dL_isMoved_63 (by omega) ?_
        refine AW.aldIE dL_isMoved_64 T.a8 (by omega) (by omega) (by exact hIx (by omega) m0.1) ?_
        refine AW.isubB dL_isMoved_65 (by omega) ?_
        refine AW.istore dL_isMoved_66 rfl ?_
        refine AW.iload dL_isMoved_68 rfl ?_
        refine AW.if_geF (tgt := 79) dL_isMoved_70 rfl (by exact c1) ?_
        refine AW.iload dL_isMoved_73 rfl ?_
        refine AW.inegB dL_isMoved_75 (by omega) ?_
        refine AW.goto (tgt := 81) dL_isMoved_76 rfl ?_
        refine AW.istore dL_isMoved_81 rfl ?_
        refine AW.pcs (pc2 := 83) rfl ?_
        refine AW.iload dL_isMoved_83 rfl ?_
        refine AW.iload dL_isMoved_85 rfl ?_
        refine AW.icmp_leT (tgt := 95) dL_isMoved_87 rfl (by omega) ?_
        refine AW.iload dL_isMoved_95 rfl ?_
        refine AW.istore dL_isMoved_97 rfl ?_
        refine AW.iload dL_isMoved_99 rfl ?_
        refine AW.iload dL_isMoved_101 rfl ?_
        refine AW.icmp_leT (tgt := 111) dL_isMoved_103 rfl (by omega) ?_
        refine AW.iload dL_isMoved_111 rfl ?_
        refine AW.istore dL_isMoved_113 rfl ?_
        refine AW.iincB dL_isMoved_115 rfl rfl (by omega) ?_
        refine AW.goto (tgt := 42) dL_isMoved_118 rfl ?_
        exact AW.locs ((15, vi ((i + 1 : Nat) : Int)) :: (14, vi (zfar Z (mv : Int) i)) :: (13, vi (znxA Z (mv : Int) i)) :: lmo mv) ⟨rfl, rfl, rfl, rfl, rfl, rfl, rfl, rfl, rfl, rfl, rfl, rfl, rfl, rfl, rfl, rfl, trivial⟩ q
    · rw [if_neg c1] at eo
      by_cases w : zfar Z (mv : Int) i < zoff Z (i : Int) (mv : Int)
      · rw [if_pos ⟨by rw [h20, m0.2.1], w⟩] at e1 e2
        rw [eo] at w e2
        rw [e1, e2] at q
        refine AW.iload dL_isMoved_42 rfl ?_
        refine AW.aload dL_isMoved_44 rfl ?_
        refine AW.iconst dL_isMoved_46 (by decide) ?_
        refine AW.aldIE dL_isMoved_47 T.a4 (by omega) (by omega) (by exact V.g2) ?_
        refine AW.icmp_geF (tgt := 121) dL_isMoved_48 rfl (by omega) ?_
        refine AW.aload dL_isMoved_51 rfl ?_
        refine AW.iconst dL_isMoved_53 (by decide) ?_
        refine AW.iload dL_isMoved_54 rfl ?_
        refine AW.imulB dL_isMoved_56 (by omega) ?_
        refine AW.aldIE dL_isMoved_57 T.a6 (by omega) (by omega) (by exact hIx (by omega) R.y0) ?_
        refine AW.aload dL_isMoved_58 rfl ?_
        refine AW.iconst dL_isMoved_60 (by decide) ?_
        refine AW.iload dL_isMoved_61 rfl ?_
        refine AW.imulB dL_isMoved_63 (by omega) ?_
        refine AW.aldIE dL_isMoved_64 T.a8 (by omega) (by omega) (by exact hIx (by omega) m0.1) ?_
        refine AW.isubB dL_isMoved_65 (by omega) ?_
        refine AW.istore dL_isMoved_66 rfl ?_
        refine AW.iload dL_isMoved_68 rfl ?_
        refine AW.if_geT (tgt := 79) dL_isMoved_70 rfl (by omega) ?_
        refine AW.iload dL_isMoved_79 rfl ?_
        refine AW.istore dL_isMoved_81 rfl ?_
        refine AW.iload dL_isMoved_83 rfl ?_
        refine AW.iload dL_isMoved_85 rfl ?_
        refine AW.pcs (pc2 := 87) rfl ?_
        refine AW.icmp_leF (tgt := 95) dL_isMoved_87 rfl (by omega) ?_
        refine AW.iload dL_isMoved_90 rfl ?_
        refine AW.goto (tgt := 97) dL_isMoved_92 rfl ?_
        refine AW.istore dL_isMoved_97 rfl ?_
        refine AW.iload dL_isMoved_99 rfl ?_
        refine AW.iload dL_isMoved_101 rfl ?_
        refine AW.icmp_leF (tgt := 111) dL_isMoved_103 rfl (by omega) ?_
        refine AW.iload dL_isMoved_106 rfl ?_
        refine AW.goto (tgt := 113) dL_isMoved_108 rfl ?_
        refine AW.istore dL_isMoved_113 rfl ?_
        refine AW.iincB dL_isMoved_115 rfl rfl (by omega) ?_
        refine AW.goto (tgt := 42) dL_isMoved_118 rfl ?_
        exact AW.locs ((15, vi ((i + 1 : Nat) : Int)) :: (14, vi (Z 21 i - Z 30 mv)) :: (13, vi (i : Int)) :: lmo mv) ⟨rfl, rfl, rfl, rfl, rfl, rfl, rfl, rfl, rfl, rfl, rfl, rfl, rfl, rfl, rfl, rfl, trivial⟩ q
      · rw [if_neg (fun z => w z.2)] at e1 e2
        rw [eo] at w
        rw [e1, e2] at q
        refine AW.iload dL_isMoved_42 rfl ?_
        refine AW.aload dL_isMoved_44 rfl ?_
        refine AW.iconst dL_isMoved_46 (by decide) ?_
        refine AW.aldIE dL_isMoved_47 T.a4 (by omega) (by omega) (by exact V.g2) ?_
        refine AW.icmp_geF (tgt := 121) dL_isMoved_48 rfl (by omega) ?_
        refine AW.aload dL_isMoved_51 rfl ?_
        refine AW.iconst dL_isMoved_53 (by decide) ?_
        refine AW.iload dL_isMoved_54 rfl ?_
        refine AW.imulB dL_isMoved_56 (by omega) ?_
        refine AW.aldIE dL_isMoved_57 T.a6 (by omega) (by omega) (by exact hIx (by omega) R.y0) ?_
        refine AW.aload dL_isMoved_58 rfl ?_
        refine AW.iconst dL_isMoved_60 (by decide) ?_
        refine AW.iload dL_isMoved_61 rfl ?_
        refine AW.imulB dL_isMoved_63 (by omega) ?_
        refine AW.aldIE dL_isMoved_64 T.a8 (by omega) (by omega) (by exact hIx (by omega) m0.1) ?_
        refine AW.isubB dL_isMoved_65 (by omega) ?_
        refine AW.istore dL_isMoved_66 rfl ?_
        refine AW.iload dL_isMoved_68 rfl ?_
        refine AW.if_geT (tgt := 79) dL_isMoved_70 rfl (by omega) ?_
        refine AW.iload dL_isMoved_79 rfl ?_
        refine AW.istore dL_isMoved_81 rfl ?_
        refine AW.iload dL_isMoved_83 rfl ?_
        refine AW.iload dL_isMoved_85 rfl ?_
        refine AW.pcs (pc2 := 87) rfl ?_
        refine AW.icmp_leT (tgt := 95) dL_isMoved_87 rfl (by omega) ?_
        refine AW.iload dL_isMoved_95 rfl ?_
        refine AW.istore dL_isMoved_97 rfl ?_
        refine AW.iload dL_isMoved_99 rfl ?_
        refine AW.iload dL_isMoved_101 rfl ?_
        refine AW.icmp_leT (tgt := 111) dL_isMoved_103 rfl (by omega) ?_
        refine AW.iload dL_isMoved_111 rfl ?_
        refine AW.istore dL_isMoved_113 rfl ?_
        refine AW.iincB dL_isMoved_115 rfl rfl (by omega) ?_
        refine AW.goto (tgt := 42) dL_isMoved_118 rfl ?_
        exact AW.locs ((15, vi ((i + 1 : Nat) : Int)) :: (14, vi (zfar Z (mv : Int) i)) :: (13, vi (znxA Z (mv : Int) i)) :: lmo mv) ⟨rfl, rfl, rfl, rfl, rfl, rfl, rfl, rfl, rfl, rfl, rfl, rfl, rfl, rfl, rfl, rfl, trivial⟩ q
def M1 (mv r0 i : Nat) (h g : AH) : Prop := FL (fun j => j = 10) h g ∧ (∀ x, ¬ (12 * mv ≤ x ∧ x < 12 * mv + 12) → hI g (la 10) x = hI h (la 10) x) ∧ ∀ j : Nat, j < i → hI g (la 10) (12 * mv + j) = hI h (la 5) (10 * r0 + j)
def M2 (mv r0 i : Nat) (h g : AH) : Prop := FL (fun j => j = 11) h g ∧ (∀ x, ¬ (13 * mv + 1 ≤ x ∧ x < 13 * mv + 12) → hL g (la 11) x = hL h (la 11) x) ∧ ∀ w : Nat, 1 ≤ w → w < i → hL g (la 11) (13 * mv + w) = hL h (la 7) (13 * r0 + w)
set_option maxHeartbeats 2000000 in
theorem mo_2 (T0 : LT h) (hm : mv < 3) (hr : r0 < 4) (k : ∀ G, M1 mv r0 10 h G → AW mL_isMoved fL_isMoved loL_isMoved mc ms Q bc bs 164 G ((13, vi (r0 : Int)) :: lmo mv) []) : ∀ (m i : Nat) (g : AH), i ≤ 10 → 10 ≤ i + m → M1 mv r0 i h g → AW mL_isMoved fL_isMoved loL_isMoved mc ms Q bc bs 129 g ((15, vi (i : Int)) :: (13, vi (r0 : Int)) :: lmo mv) [] := by
  intro m
  induction m with
  | zero =>
    intro i g h1 h2 F
    have e : i = 10 := by omega
    subst e
    refine AW.iload dL_isMoved_129 rfl ?_
    refine AW.bipush dL_isMoved_131 bp_10 (by decide) ?_
    refine AW.icmp_geT (tgt := 164) dL_isMoved_133 rfl (by omega) ?_
    exact AW.locs ((13, vi (r0 : Int)) :: lmo mv) ⟨rfl, rfl, rfl, rfl, rfl, rfl, rfl, rfl, rfl, rfl, rfl, rfl, rfl, rfl, trivial⟩ (k g F)
  | succ m ih =>
    intro i g h1 h2 F
    by_cases e : i = 10
    · exact ih i g h1 (by omega) F
    have T := F.1.T T0
    obtain ⟨q1, q2, q3⟩ := F
    refine AW.iload dL_isMoved_129 rfl ?_
    refine AW.bipush dL_isMoved_131 bp_10 (by decide) ?_
    refine AW.icmp_geF (tgt := 164) dL_isMoved_133 rfl (by omega) ?_
    refine AW.aload dL_isMoved_136 rfl ?_
    refine AW.bipush dL_isMoved_138 bp_12 (by decide) ?_
    refine AW.iload dL_isMoved_140 rfl ?_
    refine AW.imulB dL_isMoved_142 (by omega) ?_
    refine AW.iload dL_isMoved_143 rfl ?_
    refine AW.iaddB dL_isMoved_145 (by omega) ?_
    refine AW.aload dL_isMoved_146 rfl ?_
    refine AW.bipush dL_isMoved_148 bp_10 (by decide) ?_
    refine AW.iload dL_isMoved_150 rfl ?_
    refine AW.imulB dL_isMoved_152 (by omega) ?_
    refine AW.iload dL_isMoved_153 rfl ?_
    refine AW.iaddB dL_isMoved_155 (by omega) ?_
    refine AW.aldIE dL_isMoved_156 T.a5 (by omega) (by omega) (by exact hIx (j := 10 * r0 + i) (by omega) (q1.I (by decide) _)) ?_
    refine AW.astI dL_isMoved_157 T.a10 (by omega) (by omega) ?_
    rw [show (12 * (mv : Int) + (i : Int)).toNat = 12 * mv + i by omega]
    refine AW.iincB dL_isMoved_158 rfl rfl (by omega) ?_
    refine AW.goto (tgt := 129) dL_isMoved_161 rfl ?_
    refine AW.locs ((15, vi ((i + 1 : Nat) : Int)) :: (13, vi (r0 : Int)) :: lmo mv) ⟨rfl, rfl, rfl, rfl, rfl, rfl, rfl, rfl, rfl, rfl, rfl, rfl, rfl, rfl, rfl, trivial⟩ (ih (i + 1) _ (by omega) (by omega) ⟨q1.wI rfl, fun x hx => ?_, fun j hj => ?_⟩)
    · rw [hI_sIla, if_neg (by omega)]; exact q2 x hx
    · rw [hI_sIla]
      by_cases ej : j = i
      · rw [if_pos ⟨rfl, by omega⟩, ej]
      · rw [if_neg (by omega)]; exact q3 j (by omega)
set_option maxHeartbeats 2000000 in
theorem mo_3 (T0 : LT h) (hm : mv < 3) (hr : r0 < 4) (k : ∀ G, M2 mv r0 12 h G → AW mL_isMoved fL_isMoved loL_isMoved mc ms Q bc bs 240 G ((13, vi (r0 : Int)) :: lmo mv) []) : ∀ (m i : Nat) (g : AH), 1 ≤ i → i ≤ 12 → 12 ≤ i + m → M2 mv r0 i h g → AW mL_isMoved fL_isMoved loL_isMoved mc ms Q bc bs 205 g ((15, vi (i : Int)) :: (13, vi (r0 : Int)) :: lmo mv) [] := by
  intro m
  induction m with
  | zero =>
    intro i g h0 h1 h2 F
    have e : i = 12 := by omega
    subst e
    refine AW.iload dL_isMoved_205 rfl ?_
    refine AW.bipush dL_isMoved_207 bp_12 (by decide) ?_
    refine AW.icmp_geT (tgt := 240) dL_isMoved_209 rfl (by omega) ?_
    exact AW.locs ((13, vi (r0 : Int)) :: lmo mv) ⟨rfl, rfl, rfl, rfl, rfl, rfl, rfl, rfl, rfl, rfl, rfl, rfl, rfl, rfl, trivial⟩ (k g F)
  | succ m ih =>
    intro i g h0 h1 h2 F
    by_cases e : i = 12
    · exact ih i g h0 h1 (by omega) F
    have T := F.1.T T0
    obtain ⟨q1, q2, q3⟩ := F
    refine AW.iload dL_isMoved_205 rfl ?_
    refine AW.bipush dL_isMoved_207 bp_12 (by decide) ?_
    refine AW.icmp_geF (tgt := 240) dL_isMoved_209 rfl (by omega) ?_
    refine AW.aload dL_isMoved_212 rfl ?_
    refine AW.bipush dL_isMoved_214 bp_13 (by decide) ?_
    refine AW.iload dL_isMoved_216 rfl ?_
    refine AW.imulB dL_isMoved_218 (by omega) ?_
    refine AW.iload dL_isMoved_219 rfl ?_
    refine AW.iaddB dL_isMoved_221 (by omega) ?_
    refine AW.aload dL_isMoved_222 rfl ?_
    refine AW.bipush dL_isMoved_224 bp_13 (by decide) ?_
    refine AW.iload dL_isMoved_226 rfl ?_
    refine AW.imulB dL_isMoved_228 (by omega) ?_
    refine AW.iload dL_isMoved_229 rfl ?_
    refine AW.iaddB dL_isMoved_231 (by omega) ?_
    refine AW.aldLE dL_isMoved_232 T.a7 (by omega) (by omega) (by exact hLx (j := 13 * r0 + i) (by omega) (q1.L (by decide) _)) ?_
    refine AW.astL dL_isMoved_233 T.a11 (by omega) (by omega) ?_
    rw [show (13 * (mv : Int) + (i : Int)).toNat = 13 * mv + i by omega]
    refine AW.iincB dL_isMoved_234 rfl rfl (by omega) ?_
    refine AW.goto (tgt := 205) dL_isMoved_237 rfl ?_
    refine AW.locs ((15, vi ((i + 1 : Nat) : Int)) :: (13, vi (r0 : Int)) :: lmo mv) ⟨rfl, rfl, rfl, rfl, rfl, rfl, rfl, rfl, rfl, rfl, rfl, rfl, rfl, rfl, rfl, trivial⟩ (ih (i + 1) _ (by omega) (by omega) (by omega) ⟨q1.wL rfl, fun x hx => ?_, fun j j0 hj => ?_⟩)
    · rw [hL_sLla, if_neg (by omega)]; exact q2 x hx
    · rw [hL_sLla]
      by_cases ej : j = i
      · rw [if_pos ⟨rfl, by omega⟩, ej]
      · rw [if_neg (by omega)]; exact q3 j j0 (by omega)
set_option maxHeartbeats 2000000 in
/-- the flags' loop -/
theorem mo_4 (T0 : LT h1) (g3 : hI h1 (la 4) 3 = Z 28 0) (b3 : 0 ≤ Z 28 0 ∧ Z 28 0 ≤ 3) (b19 : r0 < 4) (k : ∀ G, FLG r0 (Z 28 0).toNat h1 G → AW mL_isMoved fL_isMoved loL_isMoved mc ms Q bc bs 332 G ((13, vi (r0 : Int)) :: lmo mv) []) : ∀ (m i : Nat) (g : AH), (i : Int) ≤ Z 28 0 → Z 28 0 ≤ (i : Int) + m → FLG r0 i h1 g → AW mL_isMoved fL_isMoved loL_isMoved mc ms Q bc bs 281 g ((15, vi (i : Int)) :: (13, vi (r0 : Int)) :: lmo mv) [] := by
  intro m
  induction m with
  | zero =>
    intro i g h1' h2 F
    have T := F.1.T T0
    have e : (Z 28 0).toNat = i := by omega
    rw [e] at k
    refine AW.iload dL_isMoved_281 rfl ?_
    refine AW.aload dL_isMoved_283 rfl ?_
    refine AW.iconst dL_isMoved_285 (by decide) ?_
    refine AW.aldIE dL_isMoved_286 T.a4 (by omega) (by omega) (by exact (F.1.I (by decide) 3).trans g3) ?_
    refine AW.icmp_geT (tgt := 332) dL_isMoved_287 rfl (by omega) ?_
    exact AW.locs ((13, vi (r0 : Int)) :: lmo mv) ⟨rfl, rfl, rfl, rfl, rfl, rfl, rfl, rfl, rfl, rfl, rfl, rfl, rfl, rfl, trivial⟩ (k g F)
  | succ m ih =>
    intro i g h1' h2 F
    by_cases e : (i : Int) = Z 28 0
    · exact ih i g h1' (by omega) F
    have T := F.1.T T0
    have x1 : hI g (la 8) (3 * i + 1) = hI h1 (la 8) (3 * i + 1) := (F.2.1 i).2
    have x2 : hI g (la 8) (3 * i + 2) = hI h1 (la 8) (3 * i + 2) := (F.2.2 i).trans (if_neg (by omega))
    by_cases er : hI h1 (la 8) (3 * i + 1) = (r0 : Int)
    · refine AW.iload dL_isMoved_281 rfl ?_
      refine AW.aload dL_isMoved_283 rfl ?_
      refine AW.iconst dL_isMoved_285 (by decide) ?_
      refine AW.aldIE dL_isMoved_286 T.a4 (by omega) (by omega) (by exact (F.1.I (by decide) 3).trans g3) ?_
      refine AW.icmp_geF (tgt := 332) dL_isMoved_287 rfl (by omega) ?_
      refine AW.aload dL_isMoved_290 rfl ?_
      refine AW.iconst dL_isMoved_292 (by decide) ?_
      refine AW.iload dL_isMoved_293 rfl ?_
      refine AW.imulB dL_isMoved_295 (by omega) ?_
      refine AW.iconst dL_isMoved_296 (by decide) ?_
      refine AW.iaddB dL_isMoved_297 (by omega) ?_
      refine AW.aload dL_isMoved_298 rfl ?_
      refine AW.iconst dL_isMoved_300 (by decide) ?_
      refine AW.iload dL_isMoved_301 rfl ?_
      refine AW.imulB dL_isMoved_303 (by omega) ?_
      refine AW.iconst dL_isMoved_304 (by decide) ?_
      refine AW.iaddB dL_isMoved_305 (by omega) ?_
      refine AW.aldIE dL_isMoved_306 T.a8 (by omega) (by omega) (by exact hIx (by omega) (x1.trans er)) ?_
      refine AW.iload dL_isMoved_307 rfl ?_
      refine AW.icmp_neF (tgt := 316) dL_isMoved_309 rfl (by rfl) ?_
      refine AW.iconst dL_isMoved_312 (by decide) ?_
      refine AW.goto (tgt := 325) dL_isMoved_313 rfl ?_
      refine AW.astI dL_isMoved_325 T.a8 (by omega) (by omega) ?_
      rw [show (3 * (i : Int) + 2).toNat = 3 * i + 2 by omega]
      refine AW.pcs (pc2 := 326) rfl ?_
      refine AW.iincB dL_isMoved_326 rfl rfl (by omega) ?_
      refine AW.goto (tgt := 281) dL_isMoved_329 rfl ?_
      exact AW.locs ((15, vi ((i + 1 : Nat) : Int)) :: (13, vi (r0 : Int)) :: lmo mv) ⟨rfl, rfl, rfl, rfl, rfl, rfl, rfl, rfl, rfl, rfl, rfl, rfl, rfl, rfl, rfl, trivial⟩ (ih (i + 1) _ (by omega) (by omega) (F.s (by rw [if_pos er])))
    · refine AW.iload dL_isMoved_281 rfl ?_
      refine AW.aload dL_isMoved_283 rfl ?_
      refine AW.iconst dL_isMoved_285 (by decide) ?_
      refine AW.aldIE dL_isMoved_286 T.a4 (by omega) (by omega) (by exact (F.1.I (by decide) 3).trans g3) ?_
      refine AW.icmp_geF (tgt := 332) dL_isMoved_287 rfl (by omega) ?_
      refine AW.aload dL_isMoved_290 rfl ?_
      refine AW.iconst dL_isMoved_292 (by decide) ?_
      refine AW.iload dL_isMoved_293 rfl ?_
      refine AW.imulB dL_isMoved_295 (by omega) ?_
      refine AW.iconst dL_isMoved_296 (by decide) ?_
      refine AW.iaddB dL_isMoved_297 (by omega) ?_
      refine AW.aload dL_isMoved_298 rfl ?_
      refine AW.iconst dL_isMoved_300 (by decide) ?_
      refine AW.iload dL_isMoved_301 rfl ?_
      refine AW.imulB dL_isMoved_303 (by omega) ?_
      refine AW.iconst dL_isMoved_304 (by decide) ?_
      refine AW.iaddB dL_isMoved_305 (by omega) ?_
      refine AW.aldIE dL_isMoved_306 T.a8 (by omega) (by omega) (by exact hIx (by omega) x1) ?_
      refine AW.iload dL_isMoved_307 rfl ?_
      refine AW.icmp_neT (tgt := 316) dL_isMoved_309 rfl (by exact er) ?_
      refine AW.aload dL_isMoved_316 rfl ?_
      refine AW.iconst dL_isMoved_318 (by decide) ?_
      refine AW.iload dL_isMoved_319 rfl ?_
      refine AW.pcs (pc2 := 321) rfl ?_
      refine AW.imulB dL_isMoved_321 (by omega) ?_
      refine AW.iconst dL_isMoved_322 (by decide) ?_
      refine AW.iaddB dL_isMoved_323 (by omega) ?_
      refine AW.aldIE dL_isMoved_324 T.a8 (by omega) (by omega) (by exact hIx (by omega) x2) ?_
      refine AW.astI dL_isMoved_325 T.a8 (by omega) (by omega) ?_
      rw [show (3 * (i : Int) + 2).toNat = 3 * i + 2 by omega]
      refine AW.iincB dL_isMoved_326 rfl rfl (by omega) ?_
      refine AW.goto (tgt := 281) dL_isMoved_329 rfl ?_
      exact AW.locs ((15, vi ((i + 1 : Nat) : Int)) :: (13, vi (r0 : Int)) :: lmo mv) ⟨rfl, rfl, rfl, rfl, rfl, rfl, rfl, rfl, rfl, rfl, rfl, rfl, rfl, rfl, rfl, trivial⟩ (ih (i + 1) _ (by omega) (by omega) (F.s (by rw [if_neg er])))
end G4

/-! ===== the law's undos ===== -/
section F4
variable {Q : AH → AO → Prop} {h g h1 G : AH} {Z Y : ZT} {c b L r0 mv i : Nat} {mc ms bc bs : Nat}
theorem q_und (J : IV L h Z c b) (hc : c ≤ 512) {m x2 x3 x4 x5 : Int} (kX : ¬ (0 ≤ m ∧ m ≤ Z 28 0 - 1) → Q h (.inl (some (vi (-300))))) (kS : (0 ≤ m ∧ m ≤ Z 28 0 - 1) → (Z 31 m.toNat = -1 ∨ ¬ Z 26 (Z 34 (Z 31 m.toNat).toNat).toNat = Z 35 (Z 31 m.toNat).toNat) → Q h (.inl (some (vi (-100)))))
    (k0 : (0 ≤ m ∧ m ≤ Z 28 0 - 1) → ¬ (Z 31 m.toNat = -1 ∨ ¬ Z 26 (Z 34 (Z 31 m.toNat).toNat).toNat = Z 35 (Z 31 m.toNat).toNat) → ∀ g, SIM g (zUnd Z m (Z 31 m.toNat)) c → ZI (zUnd Z m (Z 31 m.toNat)) → Fr nMo h g → Q g (.inl (some (vi (Z 34 (Z 31 m.toNat).toNat))))) : AC mL_does fL_does loL_does 6 36 h [vr mF, vi 11, vi m, vi x2, vi x3, vi x4, vi x5] Q := by
  refine kL_does_undo J.F ?_
  by_cases hm : 0 ≤ m ∧ m ≤ Z 28 0 - 1
  · by_cases hs : Z 31 m.toNat = -1 ∨ ¬ Z 26 (Z 34 (Z 31 m.toNat).toNat).toNat = Z 35 (Z 31 m.toNat).toNat
    · have e : zcUnd Z m = 2 := cd2_2 (fun z => z hm) hs
      exact sX7_undo J.S J.I.2.2 (fun z => by rw [e] at z; cases z) (fun _ => ⟨-100, by decide, kS hm hs⟩) (fun z => by rw [e] at z; cases z)
    · have e : zcUnd Z m = 0 := cd2_z (fun z => z hm) hs
      exact sX7_undo J.S J.I.2.2 (fun z => by rw [e] at z; cases z) (fun z => by rw [e] at z; cases z) (fun _ g S F => k0 hm hs g S (zi_und J.I J.S hc e S) F)
  · have e : zcUnd Z m = 1 := cd2_1 hm
    exact sX7_undo J.S J.I.2.2 (fun _ => ⟨-300, by decide, kX hm⟩) (fun z => by rw [e] at z; cases z) (fun z => by rw [e] at z; cases z)
abbrev lun (mv : Nat) : AL := [(0, vr mF), (1, vr (la 5)), (2, vr (la 6)), (3, vr (la 7)), (4, vr (la 4)), (5, vr (la 8)), (6, vr (la 10)), (7, vr (la 11)), (8, vi (mv : Int))]
def U1 (mv r0 i : Nat) (h g : AH) : Prop := FL (fun j => j = 5) h g ∧ (∀ x, ¬ (10 * r0 ≤ x ∧ x < 10 * r0 + 10) → hI g (la 5) x = hI h (la 5) x) ∧ ∀ j : Nat, j < i → hI g (la 5) (10 * r0 + j) = hI h (la 10) (12 * mv + j)
def U2 (mv r0 i : Nat) (h g : AH) : Prop := FL (fun j => j = 7) h g ∧ (∀ x, ¬ (13 * r0 + 1 ≤ x ∧ x < 13 * r0 + 12) → hL g (la 7) x = hL h (la 7) x) ∧ ∀ w : Nat, 1 ≤ w → w < i → hL g (la 7) (13 * r0 + w) = hL h (la 11) (13 * mv + w)
set_option maxHeartbeats 2000000 in
theorem un_1 (T0 : LT h) (hm : mv < 3) (hr : r0 < 4) (k : ∀ G, U1 mv r0 10 h G → AW mL_isUndone fL_isUndone loL_isUndone mc ms Q bc bs 128 G ((9, vi (r0 : Int)) :: lun mv) []) : ∀ (m i : Nat) (g : AH), i ≤ 10 → 10 ≤ i + m → U1 mv r0 i h g → AW mL_isUndone fL_isUndone loL_isUndone mc ms Q bc bs 94 g ((10, vi (i : Int)) :: (9, vi (r0 : Int)) :: lun mv) [] := by
  intro m
  induction m with
  | zero =>
    intro i g h1 h2 F
    have e : i = 10 := by omega
    subst e
    refine AW.iload dL_isUndone_94 rfl ?_
    refine AW.bipush dL_isUndone_96 bp_10 (by decide) ?_
    refine AW.icmp_geT (tgt := 128) dL_isUndone_98 rfl (by omega) ?_
    exact AW.locs ((9, vi (r0 : Int)) :: lun mv) ⟨rfl, rfl, rfl, rfl, rfl, rfl, rfl, rfl, rfl, rfl, trivial⟩ (k g F)
  | succ m ih =>
    intro i g h1 h2 F
    by_cases e : i = 10
    · exact ih i g h1 (by omega) F
    have T := F.1.T T0
    obtain ⟨q1, q2, q3⟩ := F
    refine AW.iload dL_isUndone_94 rfl ?_
    refine AW.bipush dL_isUndone_96 bp_10 (by decide) ?_
    refine AW.icmp_geF (tgt := 128) dL_isUndone_98 rfl (by omega) ?_
    refine AW.aload_n dL_isUndone_101 rfl ?_
    refine AW.bipush dL_isUndone_102 bp_10 (by decide) ?_
    refine AW.iload dL_isUndone_104 rfl ?_
    refine AW.imulB dL_isUndone_106 (by omega) ?_
    refine AW.iload dL_isUndone_107 rfl ?_
    refine AW.iaddB dL_isUndone_109 (by omega) ?_
    refine AW.aload dL_isUndone_110 rfl ?_
    refine AW.bipush dL_isUndone_112 bp_12 (by decide) ?_
    refine AW.iload dL_isUndone_114 rfl ?_
    refine AW.imulB dL_isUndone_116 (by omega) ?_
    refine AW.iload dL_isUndone_117 rfl ?_
    refine AW.iaddB dL_isUndone_119 (by omega) ?_
    refine AW.aldIE dL_isUndone_120 T.a10 (by omega) (by omega) (by exact hIx (j := 12 * mv + i) (by omega) (q1.I (by decide) _)) ?_
    refine AW.astI dL_isUndone_121 T.a5 (by omega) (by omega) ?_
    rw [show (10 * (r0 : Int) + (i : Int)).toNat = 10 * r0 + i by omega]
    refine AW.iincB dL_isUndone_122 rfl rfl (by omega) ?_
    refine AW.goto (tgt := 94) dL_isUndone_125 rfl ?_
    refine AW.locs ((10, vi ((i + 1 : Nat) : Int)) :: (9, vi (r0 : Int)) :: lun mv) ⟨rfl, rfl, rfl, rfl, rfl, rfl, rfl, rfl, rfl, rfl, rfl, trivial⟩ (ih (i + 1) _ (by omega) (by omega) ⟨q1.wI rfl, fun x hx => ?_, fun j hj => ?_⟩)
    · rw [hI_sIla, if_neg (by omega)]; exact q2 x hx
    · rw [hI_sIla]
      by_cases ej : j = i
      · rw [if_pos ⟨rfl, by omega⟩, ej]
      · rw [if_neg (by omega)]; exact q3 j (by omega)
set_option maxHeartbeats 2000000 in
theorem un_2 (T0 : LT h) (hm : mv < 3) (hr : r0 < 4) (k : ∀ G, U2 mv r0 12 h G → AW mL_isUndone fL_isUndone loL_isUndone mc ms Q bc bs 201 G ((9, vi (r0 : Int)) :: lun mv) []) : ∀ (m i : Nat) (g : AH), 1 ≤ i → i ≤ 12 → 12 ≤ i + m → U2 mv r0 i h g → AW mL_isUndone fL_isUndone loL_isUndone mc ms Q bc bs 167 g ((10, vi (i : Int)) :: (9, vi (r0 : Int)) :: lun mv) [] := by
  intro m
  induction m with
  | zero =>
    intro i g h0 h1 h2 F
    have e : i = 12 := by omega
    subst e
    refine AW.iload dL_isUndone_167 rfl ?_
    refine AW.bipush dL_isUndone_169 bp_12 (by decide) ?_
    refine AW.icmp_geT (tgt := 201) dL_isUndone_171 rfl (by omega) ?_
    exact AW.locs ((9, vi (r0 : Int)) :: lun mv) ⟨rfl, rfl, rfl, rfl, rfl, rfl, rfl, rfl, rfl, rfl, trivial⟩ (k g F)
  | succ m ih =>
    intro i g h0 h1 h2 F
    by_cases e : i = 12
    · exact ih i g h0 h1 (by omega) F
    have T := F.1.T T0
    obtain ⟨q1, q2, q3⟩ := F
    refine AW.iload dL_isUndone_167 rfl ?_
    refine AW.bipush dL_isUndone_169 bp_12 (by decide) ?_
    refine AW.icmp_geF (tgt := 201) dL_isUndone_171 rfl (by omega) ?_
    refine AW.aload_n dL_isUndone_174 rfl ?_
    refine AW.bipush dL_isUndone_175 bp_13 (by decide) ?_
    refine AW.iload dL_isUndone_177 rfl ?_
    refine AW.imulB dL_isUndone_179 (by omega) ?_
    refine AW.iload dL_isUndone_180 rfl ?_
    refine AW.iaddB dL_isUndone_182 (by omega) ?_
    refine AW.aload dL_isUndone_183 rfl ?_
    refine AW.bipush dL_isUndone_185 bp_13 (by decide) ?_
    refine AW.iload dL_isUndone_187 rfl ?_
    refine AW.imulB dL_isUndone_189 (by omega) ?_
    refine AW.iload dL_isUndone_190 rfl ?_
    refine AW.iaddB dL_isUndone_192 (by omega) ?_
    refine AW.aldLE dL_isUndone_193 T.a11 (by omega) (by omega) (by exact hLx (j := 13 * mv + i) (by omega) (q1.L (by decide) _)) ?_
    refine AW.astL dL_isUndone_194 T.a7 (by omega) (by omega) ?_
    rw [show (13 * (r0 : Int) + (i : Int)).toNat = 13 * r0 + i by omega]
    refine AW.iincB dL_isUndone_195 rfl rfl (by omega) ?_
    refine AW.goto (tgt := 167) dL_isUndone_198 rfl ?_
    refine AW.locs ((10, vi ((i + 1 : Nat) : Int)) :: (9, vi (r0 : Int)) :: lun mv) ⟨rfl, rfl, rfl, rfl, rfl, rfl, rfl, rfl, rfl, rfl, rfl, trivial⟩ (ih (i + 1) _ (by omega) (by omega) (by omega) ⟨q1.wL rfl, fun x hx => ?_, fun j j0 hj => ?_⟩)
    · rw [hL_sLla, if_neg (by omega)]; exact q2 x hx
    · rw [hL_sLla]
      by_cases ej : j = i
      · rw [if_pos ⟨rfl, by omega⟩, ej]
      · rw [if_neg (by omega)]; exact q3 j j0 (by omega)
end F4

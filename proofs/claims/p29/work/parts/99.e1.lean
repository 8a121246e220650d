/-! ===== the law's sets ===== -/
section E1
variable {Q : AH → AO → Prop} {h g h1 G : AH} {Z Y : ZT} {c b L r f w i : Nat} {mc ms bc bs : Nat}
theorem QX.o (e : ∀ j, sj j = true → Y j = Z j) (S : QX Z) : QX Y := by
  unfold QX at *
  rw [e 1 rfl, e 2 rfl, e 3 rfl, e 7 rfl, e 8 rfl, e 9 rfl, e 10 rfl]
  exact S
/-- the flags of the movers of a row are cleared, up to i -/
def FLG (r i : Nat) (h g : AH) : Prop := FL (fun j => j = 8) h g ∧ (∀ k, hI g (la 8) (3 * k) = hI h (la 8) (3 * k) ∧ hI g (la 8) (3 * k + 1) = hI h (la 8) (3 * k + 1)) ∧ ∀ k, hI g (la 8) (3 * k + 2) = if k < i ∧ hI h (la 8) (3 * k + 1) = (r : Int) then 0 else hI h (la 8) (3 * k + 2)
theorem FLG.z : FLG r 0 h h := ⟨FL.rf, fun _ => ⟨rfl, rfl⟩, fun k => by rw [if_neg (by omega)]⟩
theorem FLG.s {x : Int} (F : FLG r i h g) (e : x = if hI h (la 8) (3 * i + 1) = (r : Int) then 0 else hI h (la 8) (3 * i + 2)) : FLG r (i + 1) h (sI g (la 8) (3 * i + 2) x) := by
  obtain ⟨f1, f2, f3⟩ := F
  refine ⟨f1.wI rfl, fun k => ⟨?_, ?_⟩, fun k => ?_⟩
  · rw [hI_sIla, if_neg (by omega)]; exact (f2 k).1
  · rw [hI_sIla, if_neg (by omega)]; exact (f2 k).2
  · rw [hI_sIla]
    by_cases ek : k = i
    · subst ek
      rw [if_pos ⟨rfl, rfl⟩, e]
      by_cases er : hI h (la 8) (3 * k + 1) = (r : Int)
      · rw [if_pos er, if_pos ⟨by omega, er⟩]
      · rw [if_neg er, if_neg (fun z => er z.2)]
    · rw [if_neg (by omega), f3 k]
      by_cases er : hI h (la 8) (3 * k + 1) = (r : Int)
      · by_cases hk : k < i
        · rw [if_pos ⟨hk, er⟩, if_pos ⟨by omega, er⟩]
        · rw [if_neg (fun z => hk z.1), if_neg (by omega)]
      · rw [if_neg (fun z => er z.2), if_neg (fun z => er z.2)]
theorem zSet_x {n x : Int} (ef : zinR Z (r : Int) n = (f : Int)) (hf : f < 48) : (∀ j, sj j = true → zSet Z (r : Int) n x j = Z j) ∧ (∀ q : Nat, ¬ q = r → zRw (zSet Z (r : Int) n x) Z q ∧ zSet Z (r : Int) n x 26 q = Z 26 q) ∧ zRw (zSet Z (r : Int) n x) (zv Z (r : Int) (f : Int) x) r ∧ ∀ j, (j == 22 || j == 26 || j == 27 || j == 48) = false → zSet Z (r : Int) n x j = Z j := by
  have ei : (48 * (r : Int) + (f : Int)).toNat = 48 * r + f := by omega
  have ez : zSet Z (r : Int) n x = zs (zs (zs (zs Z 48 0 0) 22 (48 * r + f) x) 27 0 (wr (Z 27 0 + 1))) 26 r (wr (Z 27 0 + 1)) := by
    unfold zSet zcnt
    rw [ef, ei, Int.toNat_natCast]
    rfl
  have ev : zv Z (r : Int) (f : Int) x = zs Z 22 (48 * r + f) x := by unfold zv; rw [if_neg (by omega), ei]
  have o : ∀ j, (j == 22 || j == 26 || j == 27 || j == 48) = false → zSet Z (r : Int) n x j = Z j := fun j hj => by
    simp only [Bool.or_eq_false_iff, beq_eq_false_iff_ne] at hj
    rw [ez, zs_oj (beq_ne hj.1.1.2), zs_oj (beq_ne hj.1.2), zs_oj (beq_ne hj.1.1.1), zs_oj (beq_ne hj.2)]
  refine ⟨fun j hj => o j ?_, fun q hq => ⟨⟨by rw [o 21 rfl], by rw [o 23 rfl], fun y hy => ?_, fun y _ => by rw [o 24 rfl], fun y _ => by rw [o 25 rfl]⟩, ?_⟩, ⟨by rw [o 21 rfl, ev]; rfl, by rw [o 23 rfl, ev]; rfl, fun y hy => ?_, fun y _ => by rw [o 24 rfl, ev]; rfl, fun y _ => by rw [o 25 rfl, ev]; rfl⟩, o⟩
  · unfold sj at hj
    simp only [Bool.or_eq_true, beq_iff_eq] at hj
    rcases hj with ((((((((rfl | rfl) | rfl) | rfl) | rfl) | rfl) | rfl) | rfl) | rfl) | rfl <;> rfl
  · rw [ez]
    exact zs_ne rfl (zs_ne rfl (zs_miss (by omega) (zs_ne rfl rfl)))
  · rw [ez]
    exact zs_miss (by omega) (zs_ne rfl (zs_ne rfl (zs_ne rfl rfl)))
  · rw [ez, ev]
    rfl
theorem q_set (J : IV L h Z c b) (hc : c < 512) {row n x x4 x5 : Int} (kX : zinR Z row n = -1 → Q h (.inl (some (vi (-300))))) (kA : ¬ zinR Z row n = -1 → zcSok Z row n x = 0 → Q h (.inl (some (vi (-200)))))
    (k0 : ¬ zinR Z row n = -1 → ¬ zcSok Z row n x = 0 → ∀ g, SIM g (zSet Z row n x) (c + 1) → ZI (zSet Z row n x) → Fr nMo h g → Q g (.inl (some (vi (Z 22 (48 * row + zinR Z row n).toNat))))) : AC mL_does fL_does loL_does 4 24 h [vr mF, vi 8, vi row, vi n, vi x, vi x4, vi x5] Q := by
  refine kL_does_set J.F ?_
  by_cases hn : zinR Z row n = -1
  · have e : zcSet Z row n x = 1 := cd2_1 hn
    exact sX7_set J.S J.I.1 hc (fun _ => ⟨-300, by decide, kX hn⟩) (fun z => by rw [e] at z; cases z) (fun z => by rw [e] at z; cases z)
  · by_cases hs : zcSok Z row n x = 0
    · have e : zcSet Z row n x = 2 := cd2_2 hn hs
      exact sX7_set J.S J.I.1 hc (fun z => by rw [e] at z; cases z) (fun _ => ⟨-200, by decide, kA hn hs⟩) (fun z => by rw [e] at z; cases z)
    · have e : zcSet Z row n x = 0 := cd2_z hn hs
      exact sX7_set J.S J.I.1 hc (fun z => by rw [e] at z; cases z) (fun z => by rw [e] at z; cases z) (fun _ g S F => k0 hn hs g S (zi_set J.I e S) F)
/-- a value set: the law's arrays and the class have gone on -/
theorem set_go {n x : Int} (J : IV L h Z c b) (V : JV h Z) (hr : (r : Int) < Z 19 0) (ef : zinR Z (r : Int) n = (f : Int)) (hf : (f : Int) < Z 2 0) (hx : -1 ≤ x ∧ x ≤ zmost (Z 3 f)) (e1 : h1 = sI h (la 5) (10 * r + f) x) (i : Nat) (hi : Z 28 0 ≤ (i : Int)) (F : FLG r i h1 g) (S : SIM G (zSet Z (r : Int) n x) (c + 1)) (I : ZI (zSet Z (r : Int) n x)) (Fr : Fr nMo g G) : IV L G (zSet Z (r : Int) n x) (c + 1) b ∧ JV G (zSet Z (r : Int) n x) := by
  have K := J.K
  have b2 := K.b2
  have v2 := V.b2
  have v3 := V.b3
  obtain ⟨o1, o2, o3, o4⟩ := zSet_x (Z := Z) (r := r) (n := n) (x := x) ef (by omega)
  have F1 : FL (fun j => j = 5 ∨ j = 8) h g := by
    subst e1
    exact (FL.rf.wI (Or.inl rfl)).tr (F.1.mo (fun j e => Or.inr e))
  have J1 : IV L g Z c b := J.fl F1
  refine ⟨J1.go Fr S I ⟨by rw [o4 0 rfl]; exact J.z0, by rw [o4 13 rfl]; exact J.z13, by rw [o4 11 rfl]; exact J.z11, J.lb.o (o4 23 rfl) (o4 38 rfl) (Nat.le_succ _)⟩ (QX.o o1 J.X), ?_⟩
  refine JV.as (h := g) (la_mo Fr) ?_
  obtain ⟨R, B, h20⟩ := V.r hr
  have m8 : ∀ k, hI h1 (la 8) k = hI h (la 8) k := fun k => by subst e1; rw [hI_sIla, if_neg (by omega)]
  refine V.rw0 (r0 := r) (mv := 9) (F1.mo (fun j e => by omega)) o1 (by rw [o4 19 rfl]) (by rw [o4 28 rfl]) (o4 20 rfl) (fun q _ hq => o2 q hq) (fun t _ => ⟨⟨by rw [o4 34 rfl], by rw [o4 35 rfl], by rw [o4 37 rfl], by rw [o4 38 rfl], by rw [o4 39 rfl]⟩, fun j _ => ⟨by rw [o4 40 rfl], by rw [o4 41 rfl], by rw [o4 42 rfl]⟩⟩) (by rw [o4 32 rfl]; exact Int.le_refl _) (fun q w a1 a2 a3 a4 => by rw [F1.L (by decide)]; exact V.fz q w a1 a2 a3 a4) (fun q hq hr' R' => ?_) (fun _ => ⟨?_, ?_⟩) (o4 29 rfl) (o4 30 rfl) (fun k hk _ => ⟨⟨?_, ?_⟩, ?_, by rw [o4 31 rfl], fun j _ => F1.I (by decide) _, fun j _ _ => F1.L (by decide) _⟩) (fun z => absurd z (by omega))
  · have R1 : LR h1 Z q q := by
      subst e1
      obtain ⟨r1, r2, r3, r4⟩ := R'
      exact ⟨fun k hk => by rw [hI_sIla, if_neg (by omega)]; exact r1 k hk, by rw [hI_sIla, if_neg (by omega)]; exact r2, by rw [hI_sIla, if_neg (by omega)]; exact r3, fun w h1 h2 => r4 w h1 h2⟩
    exact R1.fl F.1 (by decide) (by decide) (by decide)
  · have R1 : LR h1 (zs Z 22 (48 * r + f) x) r r := by subst e1; exact R.val
    have ev : zv Z (r : Int) (f : Int) x = zs Z 22 (48 * r + f) x := by unfold zv; rw [if_neg (by omega), show (48 * (r : Int) + (f : Int)).toNat = 48 * r + f by omega]
    rw [ev] at o3
    exact (R1.fl F.1 (by decide) (by decide) (by decide)).zr o3
  · have B1 : VB (zv Z (r : Int) (f : Int) x) r := B.put (by omega) (fun _ => by rw [Int.toNat_natCast]; exact hx)
    exact B1.zr (fun j hj => (o1 j hj).trans (zv_o (sj_lt hj (by decide))).symm) o3
  · rw [(F.2.1 k).1, m8]
  · rw [(F.2.1 k).2, m8]
  · rw [F.2.2 k, m8, m8]
    by_cases er : hI h (la 8) (3 * k + 1) = (r : Int)
    · rw [if_pos ⟨by omega, er⟩, if_pos er]
    · rw [if_neg (fun z => er z.2), if_neg er]
abbrev lse (fi : Int) (row n x : Int) : AL := [(10, vi fi), (0, vr mF), (1, vr (la 1)), (2, vr (la 3)), (3, vr (la 4)), (4, vr (la 5)), (5, vr (la 6)), (6, vr (la 8)), (7, vi row), (8, vi n), (9, vi x)]
set_option maxHeartbeats 2000000 in
/-- the flags' loop -/
theorem set_lp {x n v0 : Int} (T0 : LT h1) (g3 : hI h1 (la 4) 3 = Z 28 0) (b3 : 0 ≤ Z 28 0 ∧ Z 28 0 ≤ 3) (b19 : r < 4) (k : ∀ G, FLG r (Z 28 0).toNat h1 G → AW mL_isSet fL_isSet loL_isSet mc ms Q bc bs 217 G ((13, vi v0) :: lse (f : Int) (r : Int) n x) []) : ∀ (m i : Nat) (g : AH), (i : Int) ≤ Z 28 0 → Z 28 0 ≤ (i : Int) + m → FLG r i h1 g → AW mL_isSet fL_isSet loL_isSet mc ms Q bc bs 167 g ((14, vi (i : Int)) :: (13, vi v0) :: lse (f : Int) (r : Int) n x) [] := by
  intro m
  induction m with
  | zero =>
    intro i g h1' h2 F
    have T := F.1.T T0
    have e : (Z 28 0).toNat = i := by omega
    rw [e] at k
    refine AW.iload dL_isSet_167 rfl ?_
    refine AW.aload_n dL_isSet_169 rfl ?_
    refine AW.iconst dL_isSet_170 (by decide) ?_
    refine AW.aldIE dL_isSet_171 T.a4 (by omega) (by omega) (by exact (F.1.I (by decide) 3).trans g3) ?_
    refine AW.icmp_geT (tgt := 217) dL_isSet_172 rfl (by omega) ?_
    exact AW.locs ((13, vi v0) :: lse (f : Int) (r : Int) n x) ⟨rfl, rfl, rfl, rfl, rfl, rfl, rfl, rfl, rfl, rfl, rfl, rfl, trivial⟩ (k g F)
  | succ m ih =>
    intro i g h1' h2 F
    by_cases e : (i : Int) = Z 28 0
    · exact ih i g h1' (by omega) F
    have T := F.1.T T0
    have x1 : hI g (la 8) (3 * i + 1) = hI h1 (la 8) (3 * i + 1) := (F.2.1 i).2
    have x2 : hI g (la 8) (3 * i + 2) = hI h1 (la 8) (3 * i + 2) := (F.2.2 i).trans (if_neg (by omega))
    by_cases er : hI h1 (la 8) (3 * i + 1) = (r : Int)
    · refine AW.iload dL_isSet_167 rfl ?_
      refine AW.aload_n dL_isSet_169 rfl ?_
      refine AW.iconst dL_isSet_170 (by decide) ?_
      refine AW.aldIE dL_isSet_171 T.a4 (by omega) (by omega) (by exact (F.1.I (by decide) 3).trans g3) ?_
      refine AW.icmp_geF (tgt := 217) dL_isSet_172 rfl (by omega) ?_
      refine AW.aload dL_isSet_175 rfl ?_
      refine AW.iconst dL_isSet_177 (by decide) ?_
      refine AW.iload dL_isSet_178 rfl ?_
      refine AW.imulB dL_isSet_180 (by omega) ?_
      refine AW.iconst dL_isSet_181 (by decide) ?_
      refine AW.iaddB dL_isSet_182 (by omega) ?_
      refine AW.aload dL_isSet_183 rfl ?_
      refine AW.iconst dL_isSet_185 (by decide) ?_
      refine AW.iload dL_isSet_186 rfl ?_
      refine AW.imulB dL_isSet_188 (by omega) ?_
      refine AW.iconst dL_isSet_189 (by decide) ?_
      refine AW.iaddB dL_isSet_190 (by omega) ?_
      refine AW.aldIE dL_isSet_191 T.a8 (by omega) (by omega) (by exact hIx (by omega) (x1.trans er)) ?_
      refine AW.iload dL_isSet_192 rfl ?_
      refine AW.icmp_neF (tgt := 201) dL_isSet_194 rfl (by rfl) ?_
      refine AW.iconst dL_isSet_197 (by decide) ?_
      refine AW.goto (tgt := 210) dL_isSet_198 rfl ?_
      refine AW.astI dL_isSet_210 T.a8 (by omega) (by omega) ?_
      rw [show (3 * (i : Int) + 2).toNat = 3 * i + 2 by omega]
      refine AW.pcs (pc2 := 211) rfl ?_
      refine AW.iincB dL_isSet_211 rfl rfl (by omega) ?_
      refine AW.goto (tgt := 167) dL_isSet_214 rfl ?_
      exact AW.locs ((14, vi ((i + 1 : Nat) : Int)) :: (13, vi v0) :: lse (f : Int) (r : Int) n x) ⟨rfl, rfl, rfl, rfl, rfl, rfl, rfl, rfl, rfl, rfl, rfl, rfl, rfl, trivial⟩ (ih (i + 1) _ (by omega) (by omega) (F.s (by rw [if_pos er])))
    · refine AW.iload dL_isSet_167 rfl ?_
      refine AW.aload_n dL_isSet_169 rfl ?_
      refine AW.iconst dL_isSet_170 (by decide) ?_
      refine AW.aldIE dL_isSet_171 T.a4 (by omega) (by omega) (by exact (F.1.I (by decide) 3).trans g3) ?_
      refine AW.icmp_geF (tgt := 217) dL_isSet_172 rfl (by omega) ?_
      refine AW.aload dL_isSet_175 rfl ?_
      refine AW.iconst dL_isSet_177 (by decide) ?_
      refine AW.iload dL_isSet_178 rfl ?_
      refine AW.imulB dL_isSet_180 (by omega) ?_
      refine AW.iconst dL_isSet_181 (by decide) ?_
      refine AW.iaddB dL_isSet_182 (by omega) ?_
      refine AW.aload dL_isSet_183 rfl ?_
      refine AW.iconst dL_isSet_185 (by decide) ?_
      refine AW.iload dL_isSet_186 rfl ?_
      refine AW.imulB dL_isSet_188 (by omega) ?_
      refine AW.iconst dL_isSet_189 (by decide) ?_
      refine AW.iaddB dL_isSet_190 (by omega) ?_
      refine AW.aldIE dL_isSet_191 T.a8 (by omega) (by omega) (by exact hIx (by omega) x1) ?_
      refine AW.iload dL_isSet_192 rfl ?_
      refine AW.icmp_neT (tgt := 201) dL_isSet_194 rfl (by exact er) ?_
      refine AW.aload dL_isSet_201 rfl ?_
      refine AW.iconst dL_isSet_203 (by decide) ?_
      refine AW.iload dL_isSet_204 rfl ?_
      refine AW.pcs (pc2 := 206) rfl ?_
      refine AW.imulB dL_isSet_206 (by omega) ?_
      refine AW.iconst dL_isSet_207 (by decide) ?_
      refine AW.iaddB dL_isSet_208 (by omega) ?_
      refine AW.aldIE dL_isSet_209 T.a8 (by omega) (by omega) (by exact hIx (by omega) x2) ?_
      refine AW.astI dL_isSet_210 T.a8 (by omega) (by omega) ?_
      rw [show (3 * (i : Int) + 2).toNat = 3 * i + 2 by omega]
      refine AW.iincB dL_isSet_211 rfl rfl (by omega) ?_
      refine AW.goto (tgt := 167) dL_isSet_214 rfl ?_
      exact AW.locs ((14, vi ((i + 1 : Nat) : Int)) :: (13, vi v0) :: lse (f : Int) (r : Int) n x) ⟨rfl, rfl, rfl, rfl, rfl, rfl, rfl, rfl, rfl, rfl, rfl, rfl, rfl, trivial⟩ (ih (i + 1) _ (by omega) (by omega) (F.s (by rw [if_neg er])))
end E1

/-! ===== a mover more ===== -/
section F0
variable {Q : AH → AO → Prop} {h g G : AH} {Z Y : ZT} {c b L r t k m : Nat}
theorem LSc.ar (e1 : ∀ i, hL g (la 1) i = hL h (la 1) i) (e2 : ∀ i, hI g (la 2) i = hI h (la 2) i) (e3 : ∀ i, hI g (la 3) i = hI h (la 3) i) (e4 : hI g (la 4) 0 = hI h (la 4) 0 ∧ hI g (la 4) 1 = hI h (la 4) 1) (S : LSc h Z) : LSc g Z := by
  unfold LSc at *
  simp only [e1, e2, e3, e4.1, e4.2]
  exact S
theorem ER.all (e : ∀ j, (sj j || j == 20 || j == 21 || j == 22 || j == 23 || j == 24 || j == 25 || j == 34 || j == 37 || j == 38 || j == 39 || j == 40 || j == 41 || j == 42) = true → Y j = Z j) : ER r t Y Z := by
  refine ⟨fun j hj => e j (by rw [hj]; rfl), by rw [e 20 rfl], ⟨by rw [e 34 rfl], by rw [e 37 rfl], by rw [e 38 rfl], by rw [e 39 rfl]⟩, fun j _ => ⟨by rw [e 40 rfl], by rw [e 41 rfl], by rw [e 42 rfl]⟩, ?_⟩
  unfold zRw
  rw [e 21 rfl, e 22 rfl, e 23 rfl, e 24 rfl, e 25 rfl]
  exact ⟨rfl, rfl, fun _ _ => rfl, fun _ _ => rfl, fun _ _ => rfl⟩
theorem zMov_x {v : Int} (hm : Z 28 0 = (m : Int)) : (∀ j, (j == 28 || j == 29 || j == 30 || j == 31 || j == 48) = false → zMov Z 0 v j = Z j) ∧ zMov Z 0 v 28 0 = (m : Int) + 1 ∧ (zMov Z 0 v 29 m = 0 ∧ zMov Z 0 v 30 m = v ∧ zMov Z 0 v 31 m = -1) ∧ ∀ k, ¬ k = m → zMov Z 0 v 29 k = Z 29 k ∧ zMov Z 0 v 30 k = Z 30 k ∧ zMov Z 0 v 31 k = Z 31 k := by
  unfold zMov
  rw [hm, Int.toNat_natCast]
  refine ⟨fun j hj => ?_, rfl, ⟨zs_ne rfl (zs_ne rfl (zs_ne rfl (zs_eq rfl rfl))), zs_ne rfl (zs_ne rfl (zs_eq rfl rfl)), zs_ne rfl (zs_eq rfl rfl)⟩, fun k hk => ⟨zs_ne rfl (zs_ne rfl (zs_ne rfl (zs_miss hk (zs_ne rfl rfl)))), zs_ne rfl (zs_ne rfl (zs_miss hk (zs_ne rfl (zs_ne rfl rfl)))), zs_ne rfl (zs_miss hk (zs_ne rfl (zs_ne rfl (zs_ne rfl rfl))))⟩⟩
  simp only [Bool.or_eq_false_iff, beq_eq_false_iff_ne] at hj
  rw [zs_oj (beq_ne hj.1.1.1.1), zs_oj (beq_ne hj.1.2), zs_oj (beq_ne hj.1.1.2), zs_oj (beq_ne hj.1.1.1.2), zs_oj (beq_ne hj.2)]
theorem q_mov (J : IV L h Z c b) (V : JV h Z) {v x3 x4 x5 : Int} (kX : ¬ (0 ≤ v ∧ v ≤ Z 1 0) → Q h (.inl (some (vi (-300))))) (k0 : (0 ≤ v ∧ v ≤ Z 1 0) → ∀ g, SIM g (zMov Z 0 v) c → ZI (zMov Z 0 v) → Fr nMo h g → Q g (.inl (some (vi (Z 28 0))))) : AC mL_does fL_does loL_does 4 24 h [vr mF, vi 9, vi 0, vi v, vi x3, vi x4, vi x5] Q := by
  have v3 := V.b3
  have s0 : (0 : Int) ≤ 0 ∧ (0 : Int) < Z 0 0 := ⟨by decide, by rw [J.z0]; decide⟩
  refine kL_does_mover J.F ?_
  by_cases hv : 0 ≤ v ∧ v ≤ Z 1 0
  · have e : zcVer Z 0 v (Z 28 0 = 8) = 0 := cd2_z (fun z => z ⟨s0, hv⟩) (by omega)
    exact sX7_mover J.S (fun z => by rw [e] at z; cases z) (fun z => by rw [e] at z; cases z) (fun _ g S F => k0 hv g S (zi_mov J.I J.S e) F)
  · have e : zcVer Z 0 v (Z 28 0 = 8) = 1 := cd2_1 (fun z => hv z.2)
    exact sX7_mover J.S (fun _ => ⟨-300, by decide, kX hv⟩) (fun z => by rw [e] at z; cases z) (fun z => by rw [e] at z; cases z)
/-- the law's arrays with a mover more -/
def FM (m : Nat) (v : Int) (h g : AH) : Prop := FL (fun j => j = 4 ∨ j = 8) h g ∧ ((∀ i, ¬ i = 3 → hI g (la 4) i = hI h (la 4) i) ∧ hI g (la 4) 3 = (m : Int) + 1) ∧ (∀ i, i < 3 * m → hI g (la 8) i = hI h (la 8) i) ∧ hI g (la 8) (3 * m) = v ∧ hI g (la 8) (3 * m + 1) = -1 ∧ hI g (la 8) (3 * m + 2) = 0
theorem mov_go {v : Int} (J : IV L h Z c b) (V : JV h Z) (hv : 0 ≤ v ∧ v ≤ Z 1 0) (hm : Z 28 0 = (m : Int)) (hm3 : m < 3) (F : FM m v h g) (S : SIM G (zMov Z 0 v) c) (I : ZI (zMov Z 0 v)) (Fr : Fr nMo g G) : IV L G (zMov Z 0 v) c b ∧ JV G (zMov Z 0 v) := by
  obtain ⟨o, o28, ⟨p29, p30, p31⟩, oo⟩ := zMov_x (v := v) hm
  obtain ⟨f1, ⟨f2, f3⟩, f4, f5, f6, f7⟩ := F
  have eS : ∀ j, sj j = true → zMov Z 0 v j = Z j := fun j hj => o j (by
    unfold sj at hj
    simp only [Bool.or_eq_true, beq_iff_eq] at hj
    rcases hj with ((((((((rfl | rfl) | rfl) | rfl) | rfl) | rfl) | rfl) | rfl) | rfl) | rfl <;> rfl)
  have J1 : IV L g Z c b := J.fl f1
  have z01 : zMov Z 0 v 1 0 = Z 1 0 := by rw [o 1 rfl]
  refine ⟨J1.go Fr S I ⟨by rw [o 0 rfl]; exact J.z0, by rw [o 13 rfl]; exact J.z13, by rw [o 11 rfl]; exact J.z11, J.lb.o (o 23 rfl) (o 38 rfl) (Nat.le_refl _)⟩ (QX.o eS J.X), ?_⟩
  refine JV.as (h := g) (la_mo Fr) ?_
  have U := V.m
  have v2 := V.b2
  refine ⟨(V.s.ar (f1.L (by decide)) (f1.I (by decide)) (f1.I (by decide)) ⟨f2 0 (by decide), f2 1 (by decide)⟩).o eS, ?_, ?_, fun r hr => ?_, ⟨fun k hk => ?_, fun k k' hk hk' n a1 a2 => ?_⟩, fun r w h1 h2 h3 h4 => by rw [f1.L (by decide)]; rw [o 19 rfl] at h1; exact V.fz r w h1 h2 h3 h4⟩
  · rw [f2 2 (by decide), o 19 rfl]; exact V.2.1
  · rw [f3, o28]; omega
  · rw [o 19 rfl] at hr
    obtain ⟨R, B, h20⟩ := V.r hr
    have zr : zRw (zMov Z 0 v) Z r := by
      unfold zRw
      rw [o 21 rfl, o 22 rfl, o 23 rfl, o 24 rfl, o 25 rfl]
      exact ⟨rfl, rfl, fun _ _ => rfl, fun _ _ => rfl, fun _ _ => rfl⟩
    exact ⟨(R.fl f1 (by decide) (by decide) (by decide)).zr zr, B.zr eS zr, by rw [o 20 rfl]; exact h20⟩
  · rw [o28] at hk
    by_cases ek : k = m
    · subst ek
      rw [f5, f6, f7, p29, p30, p31, z01]
      exact ⟨⟨rfl, rfl, hv⟩, Or.inl ⟨rfl, rfl, rfl⟩⟩
    · obtain ⟨q29, q30, q31⟩ := oo k ek
      rw [f4 _ (by omega), f4 _ (by omega), f4 _ (by omega), q29, q30, q31, z01, o 19 rfl]
      obtain ⟨u1, u2⟩ := U.1 k (by omega)
      refine ⟨u1, u2.imp (fun z => z) (fun z => ⟨z.1, z.2.imp (fun y => y) (fun y => ⟨y.1, ?_⟩)⟩)⟩
      refine y.2.kp ⟨fun j _ => f1.I (by decide) _, fun j _ _ => f1.L (by decide) _⟩ q31 (by rw [o 32 rfl]; exact Int.le_refl _) (by rw [o 26 rfl]) (by rw [o 35 rfl]) (ER.all (fun j hj => o j ?_))
      unfold sj at hj
      simp only [Bool.or_eq_true, beq_iff_eq] at hj
      simp only [Bool.or_eq_false_iff, beq_eq_false_iff_ne]
      omega
  · rw [o28] at hk hk'
    have a3 : ¬ k = m := fun z => by subst z; rw [f7] at a1; exact absurd a1 (by decide)
    have a4 : ¬ k' = m := fun z => by subst z; rw [f7] at a2; exact absurd a2 (by decide)
    rw [f4 _ (by omega)] at a1 a2
    rw [f4 _ (by omega), f4 _ (by omega)]
    exact U.2 k k' (by omega) (by omega) n a1 a2
end F0

/-! ===== a row more ===== -/
section F1
variable {Q : AH → AO → Prop} {h g G : AH} {Z Y : ZT} {c b L r t k n : Nat}
theorem zRow_x {v : Int} (hn : Z 19 0 = (n : Int)) : (∀ j, (j == 19 || j == 20 || j == 21 || j == 22 || j == 26 || j == 27 || j == 48) = false → zRow Z 0 v j = Z j) ∧ (zRow Z 0 v 19 0 = (n : Int) + 1 ∧ zRow Z 0 v 20 n = 0 ∧ zRow Z 0 v 21 n = v) ∧ (∀ f : Nat, f < 48 → zRow Z 0 v 22 (48 * n + f) = zrwV Z 0 v f) ∧ ∀ q : Nat, ¬ q = n → zRow Z 0 v 20 q = Z 20 q ∧ zRow Z 0 v 21 q = Z 21 q ∧ zRow Z 0 v 26 q = Z 26 q ∧ ∀ f : Nat, f < 48 → zRow Z 0 v 22 (48 * q + f) = Z 22 (48 * q + f) := by
  unfold zRow zcnt zRow0
  rw [hn, Int.toNat_natCast]
  refine ⟨fun j hj => ?_, ⟨rfl, zs_ne rfl (zs_ne rfl (zs_ne rfl (zfl_ne rfl (zs_ne rfl (zs_eq rfl rfl))))), zs_ne rfl (zs_ne rfl (zs_ne rfl (zfl_ne rfl (zs_eq rfl rfl))))⟩, fun f hf => zs_ne rfl (zs_ne rfl (zs_ne rfl ?_)), fun q hq => ⟨zs_ne rfl (zs_ne rfl (zs_ne rfl (zfl_ne rfl (zs_ne rfl (zs_miss hq (zs_ne rfl rfl)))))), zs_ne rfl (zs_ne rfl (zs_ne rfl (zfl_ne rfl (zs_miss hq (zs_ne rfl (zs_ne rfl rfl)))))), zs_ne rfl (zs_miss hq (zs_ne rfl (zfl_ne rfl (zs_ne rfl (zs_ne rfl (zs_ne rfl rfl)))))), fun f hf => zs_ne rfl (zs_ne rfl (zs_ne rfl ?_))⟩⟩
  · simp only [Bool.or_eq_false_iff, beq_eq_false_iff_ne] at hj
    rw [zs_oj (beq_ne hj.1.1.1.1.1.1), zs_oj (beq_ne hj.1.1.2), zs_oj (beq_ne hj.1.2), zfl_oj (beq_ne hj.1.1.1.2), zs_oj (beq_ne hj.1.1.1.1.2), zs_oj (beq_ne hj.1.1.1.1.1.2), zs_oj (beq_ne hj.2)]
  · unfold zfl
    rw [if_pos ⟨rfl, by omega, by omega⟩, show 48 * n + f - 48 * n = f by omega]
  · unfold zfl
    rw [if_neg (by omega)]
    rfl
theorem q_row (J : IV L h Z c b) (V : JV h Z) (hc : c < 512) {v x3 x4 x5 : Int} (kX : ¬ (0 ≤ v ∧ v ≤ Z 1 0) → Q h (.inl (some (vi (-300))))) (k0 : (0 ≤ v ∧ v ≤ Z 1 0) → ∀ g, SIM g (zRow Z 0 v) (c + 1) → ZI (zRow Z 0 v) → Fr nMo h g → Q g (.inl (some (vi (Z 19 0))))) : AC mL_does fL_does loL_does 7 240 h [vr mF, vi 7, vi 0, vi v, vi x3, vi x4, vi x5] Q := by
  have v2 := V.b2
  have s0 : (0 : Int) ≤ 0 ∧ (0 : Int) < Z 0 0 := ⟨by decide, by rw [J.z0]; decide⟩
  refine kL_does_row J.F ?_
  by_cases hv : 0 ≤ v ∧ v ≤ Z 1 0
  · have e : zcVer Z 0 v (Z 19 0 = 20) = 0 := cd2_z (fun z => z ⟨s0, hv⟩) (by omega)
    exact sX7_row J.S J.I.2.1 hc (fun z => by rw [e] at z; cases z) (fun z => by rw [e] at z; cases z) (fun _ g S F => k0 hv g S (zi_row J.I J.S hc e) F)
  · have e : zcVer Z 0 v (Z 19 0 = 20) = 1 := cd2_1 (fun z => hv z.2)
    exact sX7_row J.S J.I.2.1 hc (fun _ => ⟨-300, by decide, kX hv⟩) (fun z => by rw [e] at z; cases z) (fun z => by rw [e] at z; cases z)
/-- the law's arrays with a row more -/
def FN (n : Nat) (v : Int) (X : Nat → Int) (h g : AH) : Prop := FL (fun j => j = 4 ∨ j = 5 ∨ j = 6) h g ∧ ((∀ i, ¬ i = 2 → hI g (la 4) i = hI h (la 4) i) ∧ hI g (la 4) 2 = (n : Int) + 1) ∧ (∀ i, ¬ (10 * n ≤ i ∧ i < 10 * n + 10) → hI g (la 5) i = hI h (la 5) i) ∧ (∀ k : Nat, k < 10 → hI g (la 5) (10 * n + k) = X k) ∧ (∀ i, ¬ (2 * n ≤ i ∧ i < 2 * n + 2) → hI g (la 6) i = hI h (la 6) i) ∧ hI g (la 6) (2 * n) = v ∧ hI g (la 6) (2 * n + 1) = 0
theorem row_go {v : Int} (J : IV L h Z c b) (V : JV h Z) (hv : 0 ≤ v ∧ v ≤ Z 1 0) (hn : Z 19 0 = (n : Int)) (hn4 : n < 4) (F : FN n v (fun k => zrwV Z 0 v k) h g) (S : SIM G (zRow Z 0 v) (c + 1)) (I : ZI (zRow Z 0 v)) (Fr : Fr nMo g G) : IV L G (zRow Z 0 v) (c + 1) b ∧ JV G (zRow Z 0 v) := by
  obtain ⟨o, ⟨o19, p20, p21⟩, p22, oo⟩ := zRow_x (v := v) hn
  obtain ⟨f1, ⟨f2, f3⟩, f4, f5, f6, f7, f8⟩ := F
  have K := J.K
  have b2 := K.b2
  have eS : ∀ j, sj j = true → zRow Z 0 v j = Z j := fun j hj => o j (by
    unfold sj at hj
    simp only [Bool.or_eq_true, beq_iff_eq] at hj
    rcases hj with ((((((((rfl | rfl) | rfl) | rfl) | rfl) | rfl) | rfl) | rfl) | rfl) | rfl <;> rfl)
  have J1 : IV L g Z c b := J.fl f1
  have z01 : zRow Z 0 v 1 0 = Z 1 0 := by rw [o 1 rfl]
  obtain ⟨n23, n24⟩ := J.I.2.1.2.2 n (by omega) (by omega)
  have zr : ∀ q : Nat, ¬ q = n → zRw (zRow Z 0 v) Z q := fun q hq => by
    obtain ⟨q1, q2, q3, q4⟩ := oo q hq
    exact ⟨q2, by rw [o 23 rfl], q4, fun w _ => by rw [o 24 rfl], fun j _ => by rw [o 25 rfl]⟩
  refine ⟨J1.go Fr S I ⟨by rw [o 0 rfl]; exact J.z0, by rw [o 13 rfl]; exact J.z13, by rw [o 11 rfl]; exact J.z11, J.lb.o (o 23 rfl) (o 38 rfl) (Nat.le_succ _)⟩ (QX.o eS J.X), ?_⟩
  refine JV.as (h := g) (la_mo Fr) ?_
  have U := V.m
  have v2 := V.b2
  refine ⟨(V.s.ar (f1.L (by decide)) (f1.I (by decide)) (f1.I (by decide)) ⟨f2 0 (by decide), f2 1 (by decide)⟩).o eS, ?_, ?_, fun r hr => ?_, ⟨fun k hk => ?_, fun k k' hk hk' => ?_⟩, fun r w h1 h2 h3 h4 => ?_⟩
  · rw [f3, o19]; omega
  · rw [f2 3 (by decide), o 28 rfl]; exact V.2.2.1
  · rw [o19] at hr
    by_cases er : r = n
    · subst er
      refine ⟨⟨fun k hk => by rw [f5 k hk, p22 k (by omega)], by rw [f7, p21], by rw [f8, o 23 rfl, n23], fun w h1 h2 => ?_⟩, VB.byS eS (fun k hk => ?_) (by rw [p21]; exact hv) (fun w hw => ?_), p20⟩
      · rw [f1.L (by decide), V.fz r w (by omega) hn4 h1 h2]
        unfold zbxv
        rw [o 24 rfl, n24 w (by omega), if_pos rfl]
      · rw [p22 k hk]
        unfold zrwV
        have ei : (48 * 0 + (k : Int)).toNat = k := by omega
        rw [ei]
        split
        · next z =>
          have z1 : (k : Int) < Z 2 0 := z.1
          have kd := K.kd z1
          exact ⟨by omega, fun _ => kd.1.2.1, fun z2 => absurd z1 (by omega)⟩
        · have := zmost_b (Z 3 k)
          exact ⟨by omega, fun _ => by omega, fun _ => rfl⟩
      · rw [o 24 rfl, n24 w hw]
        exact ⟨by omega, fun z => absurd rfl z, fun z => absurd z (by decide), fun z => absurd z (by decide)⟩
    · obtain ⟨R, B, h20⟩ := V.r (r := r) (by omega)
      have R1 : LR g Z r r := by
        obtain ⟨r1, r2, r3, r4⟩ := R
        exact ⟨fun k hk => by rw [f4 _ (by omega)]; exact r1 k hk, by rw [f6 _ (by omega)]; exact r2, by rw [f6 _ (by omega)]; exact r3, fun w h1 h2 => by rw [f1.L (by decide)]; exact r4 w h1 h2⟩
      exact ⟨R1.zr (zr r er), B.zr eS (zr r er), by rw [(oo r er).1]; exact h20⟩
  · rw [o 28 rfl] at hk
    rw [f1.I (by decide), f1.I (by decide), f1.I (by decide), o 29 rfl, o 30 rfl, o 31 rfl, z01, o19]
    obtain ⟨u1, u2⟩ := U.1 k hk
    refine ⟨u1, u2.imp (fun z => z) (fun z => ⟨⟨z.1.1, by omega⟩, z.2.imp (fun y => y) (fun y => ⟨y.1, ?_⟩)⟩)⟩
    have hq : ¬ (hI h (la 8) (3 * k + 1)).toNat = n := by omega
    exact y.2.kp ⟨fun j _ => f1.I (by decide) _, fun j _ _ => f1.L (by decide) _⟩ (by rw [o 31 rfl]) (by rw [o 32 rfl]; exact Int.le_refl _) (oo _ hq).2.2.1 (by rw [o 35 rfl]) ⟨eS, (oo _ hq).1, ⟨by rw [o 34 rfl], by rw [o 37 rfl], by rw [o 38 rfl], by rw [o 39 rfl]⟩, fun j _ => ⟨by rw [o 40 rfl], by rw [o 41 rfl], by rw [o 42 rfl]⟩, zr _ hq⟩
  · rw [o 28 rfl] at hk hk'
    rw [f1.I (by decide), f1.I (by decide), f1.I (by decide), f1.I (by decide)]
    exact U.2 k k' hk hk'
  · rw [f1.L (by decide)]
    rw [o19] at h1
    exact V.fz r w (by omega) h2 h3 h4
end F1

/-! ===== what holds between the law's steps ===== -/
section C1
variable {Q : AH → AO → Prop} {h g : AH} {Z Y : ZT} {c b L : Nat}
/-- the losses, bounded by the acts -/
def LB (Z : ZT) (c : Nat) : Prop := (∀ r : Nat, 0 ≤ Z 23 r ∧ Z 23 r ≤ (c : Int)) ∧ ∀ t : Nat, 0 ≤ Z 38 t ∧ Z 38 t ≤ (c : Int)
theorem LB.o {c' : Nat} (e23 : Y 23 = Z 23) (e38 : Y 38 = Z 38) (hc : c ≤ c') (B : LB Z c) : LB Y c' := by
  unfold LB
  rw [e23, e38]
  exact ⟨fun r => by have := B.1 r; omega, fun r => by have := B.2 r; omega⟩
/-- class, model, the law's fixed cells -/
def IV (L : Nat) (h : AH) (Z : ZT) (c b : Nat) : Prop := SIM h Z c ∧ ZI Z ∧ WW h ∧ LT h ∧ hT h nS = some (40, L) ∧ (∀ k, b ≤ k → hT h (nSb k) = none ∧ hT h (nVb k) = none) ∧ (Z 0 0 = 1 ∧ Z 13 0 = 0 ∧ Z 11 0 = 0 ∧ LB Z c) ∧ QX Z
theorem IV.S (J : IV L h Z c b) : SIM h Z c := J.1
theorem IV.I (J : IV L h Z c b) : ZI Z := J.2.1
theorem IV.W (J : IV L h Z c b) : WW h := J.2.2.1
theorem IV.T (J : IV L h Z c b) : LT h := J.2.2.2.1
theorem IV.N (J : IV L h Z c b) : hT h nS = some (40, L) := J.2.2.2.2.1
theorem IV.B (J : IV L h Z c b) : hT h (nSb b) = none ∧ hT h (nVb b) = none := J.2.2.2.2.2.1 b (Nat.le_refl _)
theorem IV.z0 (J : IV L h Z c b) : Z 0 0 = 1 := J.2.2.2.2.2.2.1.1
theorem IV.z13 (J : IV L h Z c b) : Z 13 0 = 0 := J.2.2.2.2.2.2.1.2.1
theorem IV.z11 (J : IV L h Z c b) : Z 11 0 = 0 := J.2.2.2.2.2.2.1.2.2.1
theorem IV.lb (J : IV L h Z c b) : LB Z c := J.2.2.2.2.2.2.1.2.2.2
theorem IV.X (J : IV L h Z c b) : QX Z := J.2.2.2.2.2.2.2
theorem IV.F (J : IV L h Z c b) : hT h mF = some (8, 0) := J.S.f
theorem SIM.zs0 (S : SIM h Z c) (h0 : Z 0 0 = 1) : SV h Z 0 ∧ ZS Z 0 := by
  obtain ⟨A, S⟩ := S
  have := S.2.2.1 0 (by omega)
  exact ⟨this.1, this.2.1⟩
theorem IV.K (J : IV L h Z c b) : QS Z := QS.mk (J.S.zs0 J.z0).2 J.I.1.1.2.1 J.X
theorem Fr.wt {P : Nm → Prop} (F : Fr P h g) (h2 : ∀ n : Nm, n.1 = 2 ∨ n.1 = 98 ∨ n.1 = 99 → P n) : (WW h → WW g) ∧ (LT h → LT g) ∧ hT g nS = hT h nS := by
  refine ⟨fun W i hi => ?_, fun T => ?_, F.T (h2 _ (Or.inr (Or.inr rfl)))⟩
  · rw [F.T (h2 _ (Or.inr (Or.inl rfl))), F.T (h2 _ (Or.inr (Or.inl rfl)))]; exact W i hi
  · unfold LT at *
    simp only [F.T (h2 (la 1) (Or.inl rfl)), F.T (h2 (la 2) (Or.inl rfl)), F.T (h2 (la 3) (Or.inl rfl)), F.T (h2 (la 4) (Or.inl rfl)), F.T (h2 (la 5) (Or.inl rfl)), F.T (h2 (la 6) (Or.inl rfl)), F.T (h2 (la 7) (Or.inl rfl)), F.T (h2 (la 8) (Or.inl rfl)), F.T (h2 (la 9) (Or.inl rfl)), F.T (h2 (la 10) (Or.inl rfl)), F.T (h2 (la 11) (Or.inl rfl))]
    exact T
theorem nMo_w : ∀ n : Nm, n.1 = 2 ∨ n.1 = 98 ∨ n.1 = 99 → nMo n := fun n z => by unfold nMo; omega
theorem nSB_w : ∀ n : Nm, n.1 = 2 ∨ n.1 = 98 ∨ n.1 = 99 → nSB b n := fun n z w => by
  rcases w with w | w <;> rw [w] at z <;> rcases z with z | z | z <;> exact absurd z (by show ¬ (96 : Nat) = _; decide)
/-- the class has gone on -/
theorem IV.go {c' : Nat} (J : IV L h Z c b) (F : Fr nMo h g) (S : SIM g Y c') (I : ZI Y) (z : Y 0 0 = 1 ∧ Y 13 0 = 0 ∧ Y 11 0 = 0 ∧ LB Y c') (X : QX Y) : IV L g Y c' b := by
  obtain ⟨w1, w2, w3⟩ := F.wt nMo_w
  refine ⟨S, I, w1 J.W, w2 J.T, w3.trans J.N, fun k hk => ?_, z, X⟩
  rw [F.T (Or.inr (show 15 ≤ 96 by decide)), F.T (Or.inr (show 15 ≤ 96 by decide))]
  exact J.2.2.2.2.2.1 k hk
theorem IV.mo (J : IV L h Z c b) (F : Fr nMo h g) (S : SIM g Z c) : IV L g Z c b := J.go F S J.I ⟨J.z0, J.z13, J.z11, J.lb⟩ J.X
theorem IV.tx (J : IV L h Z c b) (F : Fr (nSB b) h g) : IV L g Z c (b + 1) := by
  obtain ⟨w1, w2, w3⟩ := F.wt nSB_w
  refine ⟨J.S.tx F, J.I, w1 J.W, w2 J.T, w3.trans J.N, fun k hk => ?_, ⟨J.z0, J.z13, J.z11, J.lb⟩, J.X⟩
  have q : ∀ i, nSB b (96, k, i) := fun i w => by
    rcases w with w | w
    · have := congrArg (fun n : Nm => n.2.1) w; simp only at this; omega
    · have := congrArg (fun n : Nm => n.2.1) w; simp only at this; omega
  rw [F.T (q 0), F.T (q 1)]
  exact J.2.2.2.2.2.1 k (by omega)
theorem IV.fl {P : Nat → Prop} (J : IV L h Z c b) (F : FL P h g) : IV L g Z c b := by
  refine ⟨J.S.mo F.nIn, J.I, ?_, F.T J.T, ?_, fun k hk => ?_, ⟨J.z0, J.z13, J.z11, J.lb⟩, J.X⟩
  · have := J.W; unfold WW at *; rw [F.1]; exact this
  · rw [F.1]; exact J.N
  · rw [F.1]; exact J.2.2.2.2.2.1 k hk
/-! the law's arrays and the model -/
/-- what a mover's step can be taken back to, as the law keeps it -/
def LU (h : AH) (Y : ZT) (k r : Nat) : Prop := (∀ j : Nat, j < 10 → hI h (la 10) (12 * k + j) = Y 22 (48 * r + j)) ∧ hI h (la 10) (12 * k + 10) = Y 21 r ∧ hI h (la 10) (12 * k + 11) = Y 23 r ∧ ∀ w : Nat, 1 ≤ w → w < 12 → hL h (la 11) (13 * k + w) = Int64.ofInt (zbxv Y r w)
def UD (h : AH) (Z : ZT) (k r : Nat) : Prop := (0 ≤ Z 31 k ∧ Z 31 k < Z 32 0) ∧ Z 34 (Z 31 k).toNat = (r : Int) ∧ Z 26 r = Z 35 (Z 31 k).toNat ∧ LU h (zUnd Z (k : Int) (Z 31 k)) k r ∧ VB (zUnd Z (k : Int) (Z 31 k)) r
def LM (h : AH) (Z : ZT) : Prop := (∀ k : Nat, (k : Int) < Z 28 0 → (hI h (la 8) (3 * k) = Z 30 k ∧ Z 29 k = 0 ∧ 0 ≤ Z 30 k ∧ Z 30 k ≤ Z 1 0) ∧ ((hI h (la 8) (3 * k + 1) = -1 ∧ Z 31 k = -1 ∧ hI h (la 8) (3 * k + 2) = 0) ∨ ((0 ≤ hI h (la 8) (3 * k + 1) ∧ hI h (la 8) (3 * k + 1) < Z 19 0) ∧ (hI h (la 8) (3 * k + 2) = 0 ∨ (hI h (la 8) (3 * k + 2) = 1 ∧ UD h Z k (hI h (la 8) (3 * k + 1)).toNat)))))
  ∧ ∀ k k' : Nat, (k : Int) < Z 28 0 → (k' : Int) < Z 28 0 → ¬ k = k' → hI h (la 8) (3 * k + 2) = 1 → hI h (la 8) (3 * k' + 2) = 1 → ¬ hI h (la 8) (3 * k + 1) = hI h (la 8) (3 * k' + 1)
/-- rows not yet made have no boxes -/
def FZ (h : AH) (Z : ZT) : Prop := ∀ r w : Nat, Z 19 0 ≤ (r : Int) → r < 4 → 1 ≤ w → w < 12 → hL h (la 7) (13 * r + w) = Int64.ofInt 0
def JV (h : AH) (Z : ZT) : Prop := LSc h Z ∧ (hI h (la 4) 2 = Z 19 0 ∧ 0 ≤ Z 19 0 ∧ Z 19 0 ≤ 4) ∧ (hI h (la 4) 3 = Z 28 0 ∧ 0 ≤ Z 28 0 ∧ Z 28 0 ≤ 3) ∧ (∀ r : Nat, (r : Int) < Z 19 0 → LR h Z r r ∧ VB Z r ∧ Z 20 r = 0) ∧ LM h Z ∧ FZ h Z
theorem JV.s (J : JV h Z) : LSc h Z := J.1
theorem JV.g2 (J : JV h Z) : hI h (la 4) 2 = Z 19 0 := J.2.1.1
theorem JV.b2 (J : JV h Z) : 0 ≤ Z 19 0 ∧ Z 19 0 ≤ 4 := J.2.1.2
theorem JV.g3 (J : JV h Z) : hI h (la 4) 3 = Z 28 0 := J.2.2.1.1
theorem JV.b3 (J : JV h Z) : 0 ≤ Z 28 0 ∧ Z 28 0 ≤ 3 := J.2.2.1.2
theorem JV.r (J : JV h Z) {r : Nat} (hr : (r : Int) < Z 19 0) : LR h Z r r ∧ VB Z r ∧ Z 20 r = 0 := J.2.2.2.1 r hr
theorem JV.m (J : JV h Z) : LM h Z := J.2.2.2.2.1
theorem JV.fz (J : JV h Z) : FZ h Z := J.2.2.2.2.2
/-- the law's arrays as they were -/
def la_s (h g : AH) : Prop := ∀ j, (∀ i, hI g (la j) i = hI h (la j) i) ∧ ∀ i, hL g (la j) i = hL h (la j) i
theorem la_mo (F : Fr nMo h g) : la_s h g := fun j => ⟨F.I (nMo_w _ (Or.inl rfl)), F.L (nMo_w _ (Or.inl rfl))⟩
theorem la_tx (F : Fr (nSB b) h g) : la_s h g := fun j => ⟨F.I (nSB_w _ (Or.inl rfl)), F.L (nSB_w _ (Or.inl rfl))⟩
theorem LU.s (e : la_s h g) {k r : Nat} (U : LU h Y k r) : LU g Y k r := by
  unfold LU at *
  simp only [(e 10).1, (e 11).2]
  exact U
theorem LR.s (e : la_s h g) {k r : Nat} (U : LR h Y k r) : LR g Y k r := by
  unfold LR at *
  simp only [(e 5).1, (e 6).1, (e 7).2]
  exact U
theorem LSc.s (e : la_s h g) (U : LSc h Y) : LSc g Y := by
  unfold LSc at *
  simp only [(e 1).2, (e 2).1, (e 3).1, (e 4).1]
  exact U
theorem UD.s (e : la_s h g) {k r : Nat} (U : UD h Z k r) : UD g Z k r := ⟨U.1, U.2.1, U.2.2.1, U.2.2.2.1.s e, U.2.2.2.2⟩
theorem LM.s (e : la_s h g) (U : LM h Z) : LM g Z := by
  refine ⟨fun k hk => ?_, fun k k' hk hk' n => ?_⟩
  · rw [(e 8).1, (e 8).1, (e 8).1]
    obtain ⟨u1, u2⟩ := U.1 k hk
    exact ⟨u1, u2.imp (fun z => z) (fun z => ⟨z.1, z.2.imp (fun y => y) (fun y => ⟨y.1, y.2.s e⟩)⟩)⟩
  · rw [(e 8).1, (e 8).1, (e 8).1, (e 8).1]
    exact U.2 k k' hk hk' n
theorem JV.as (e : la_s h g) (J : JV h Z) : JV g Z := by
  refine ⟨J.s.s e, ?_, ?_, fun r hr => ⟨(J.r hr).1.s e, (J.r hr).2⟩, J.m.s e, fun r w h1 h2 h3 h4 => by rw [(e 7).2]; exact J.fz r w h1 h2 h3 h4⟩
  · rw [(e 4).1]; exact J.2.1
  · rw [(e 4).1]; exact J.2.2.1
/-- scratch alone is touched -/
theorem JV.sc {P : Nat → Prop} (F : FL P h g) (hP : ∀ j, P j → j = 9) (J : JV h Z) : JV g Z := by
  have ne : ∀ j, ¬ j = 9 → ¬ P j := fun j hj z => hj (hP j z)
  have m8 : ∀ i, hI g (la 8) i = hI h (la 8) i := F.I (ne 8 (by decide))
  refine ⟨J.s.fl F (ne 1 (by decide)) (ne 2 (by decide)) (ne 3 (by decide)) (ne 4 (by decide)), ?_, ?_, fun r hr => ⟨(J.r hr).1.fl F (ne 5 (by decide)) (ne 6 (by decide)) (ne 7 (by decide)), (J.r hr).2⟩, ?_, fun r w h1 h2 h3 h4 => by rw [F.L (ne 7 (by decide))]; exact J.fz r w h1 h2 h3 h4⟩
  · rw [F.I (ne 4 (by decide))]; exact J.2.1
  · rw [F.I (ne 4 (by decide))]; exact J.2.2.1
  · have U := J.m
    refine ⟨fun k hk => ?_, fun k k' hk hk' n => ?_⟩
    · rw [m8, m8, m8]
      obtain ⟨u1, u2⟩ := U.1 k hk
      refine ⟨u1, u2.imp (fun z => z) (fun z => ⟨z.1, z.2.imp (fun y => y) (fun y => ⟨y.1, y.2.1, y.2.2.1, y.2.2.2.1, ?_, y.2.2.2.2.2⟩)⟩)⟩
      have q := y.2.2.2.2.1
      unfold LU at *
      simp only [F.I (ne 10 (by decide)), F.L (ne 11 (by decide))]
      exact q
    · rw [m8, m8, m8, m8]
      exact U.2 k k' hk hk' n
/-- row 4, the law's own, is touched -/
theorem JV.r4 (F : FR 4 h g) (J : JV h Z) : JV g Z := by
  have b2 := J.b2
  have m8 : ∀ i, hI g (la 8) i = hI h (la 8) i := F.1.I (by decide)
  refine ⟨J.s.fr F, ?_, ?_, fun r hr => ⟨F.lr (by omega) (J.r hr).1, (J.r hr).2⟩, ?_, fun r w h1 h2 h3 h4 => by rw [F.2.2.2 _ (by omega)]; exact J.fz r w h1 h2 h3 h4⟩
  · rw [F.1.I (by decide)]; exact J.2.1
  · rw [F.1.I (by decide)]; exact J.2.2.1
  · have U := J.m
    refine ⟨fun k hk => ?_, fun k k' hk hk' n => ?_⟩
    · rw [m8, m8, m8]
      obtain ⟨u1, u2⟩ := U.1 k hk
      refine ⟨u1, u2.imp (fun z => z) (fun z => ⟨z.1, z.2.imp (fun y => y) (fun y => ⟨y.1, y.2.1, y.2.2.1, y.2.2.2.1, ?_, y.2.2.2.2.2⟩)⟩)⟩
      have q := y.2.2.2.2.1
      unfold LU at *
      simp only [F.1.I (show ¬ ((10 : Nat) = 5 ∨ (10 : Nat) = 6 ∨ (10 : Nat) = 7 ∨ (10 : Nat) = 9) by decide), F.1.L (show ¬ ((11 : Nat) = 5 ∨ (11 : Nat) = 6 ∨ (11 : Nat) = 7 ∨ (11 : Nat) = 9) by decide)]
      exact q
    · rw [m8, m8, m8, m8]
      exact U.2 k k' hk hk' n
/-! what is asked -/
theorem q_head (J : IV L h Z c b) {x2 x3 : Int} (k : Q h (.inl (some (vi (100 * Z 1 0))))) : AC mL_asks fL_asks loL_asks 2 12 h [vr mF, vi 5, vi 0, vi x2, vi x3] Q :=
  kL_asks_head J.F (sX7_head J.S (fun z => absurd (show (0 : Int) ≤ 0 ∧ (0 : Int) < Z 0 0 by rw [J.z0]; decide) z) (fun _ => by
    show Q h (.inl (some (vi (100 * Z 1 0 + Z 11 0))))
    rw [J.z11, Int.add_zero]; exact k))
theorem q_headX (J : IV L h Z c b) {x2 x3 : Int} (k : Q h (.inl (some (vi (-300))))) : AC mL_asks fL_asks loL_asks 2 12 h [vr mF, vi 5, vi 1, vi x2, vi x3] Q :=
  kL_asks_head J.F (sX7_head J.S (fun _ => ⟨-300, by decide, k⟩) (fun z => absurd z.2 (by rw [J.z0]; decide)))
theorem q_fieldX (J : IV L h Z c b) {v n : Int} (hv : ¬ (0 ≤ v ∧ v ≤ Z 1 0)) (k : Q h (.inl (some (vi (-300))))) : AC mL_asks fL_asks loL_asks 4 24 h [vr mF, vi 0, vi 0, vi v, vi n] Q := by
  have e1 : zcFie Z 0 v n = 1 := cd2_1 (fun z => hv z.2)
  exact kL_asks_field J.F (sX7_field J.S J.I.1 (fun _ => ⟨-300, by decide, k⟩) (fun z => by rw [e1] at z; cases z) (fun z => by rw [e1] at z; cases z))
theorem q_fieldA (J : IV L h Z c b) {v n : Int} (hv : 0 ≤ v ∧ v ≤ Z 1 0) (hn : ¬ (0 ≤ n ∧ n ≤ 25)) (k : Q h (.inl (some (vi (-200))))) : AC mL_asks fL_asks loL_asks 4 24 h [vr mF, vi 0, vi 0, vi v, vi n] Q := by
  have e1 : zcFie Z 0 v n = 2 := cd2_2 (fun z => z ⟨⟨by decide, by rw [J.z0]; decide⟩, hv⟩) hn
  exact kL_asks_field J.F (sX7_field J.S J.I.1 (fun z => by rw [e1] at z; cases z) (fun _ => ⟨-200, by decide, k⟩) (fun z => by rw [e1] at z; cases z))
theorem q_textX (J : IV L h Z c b) {v n : Int} (hv : ¬ ((0 < v ∧ v ≤ Z 1 0) ∧ ¬ zsgn Z 0 v n = 0)) (k : ∀ g, IV L g Z c (b + 1) → la_s h g → Q g (.inl (some (vi (-300))))) : AC mL_asks fL_asks loL_asks 4 32 h [vr mF, vi 1, vi 0, vi v, vi n] Q := by
  have e1 : zcTxt Z 0 v n = 1 := bz_1.mpr (fun z => hv ⟨⟨z.2.1, z.1.2.2⟩, z.2.2⟩)
  exact kL_asks_text J.F (sX7_text J.S J.I J.W J.B.1 J.B.2 (fun _ g F => ⟨-300, by decide, k g (J.tx F) (la_tx F)⟩) (fun z => by rw [e1] at z; cases z))
theorem t_text (J : IV L h Z c b) {v n : Int} (hv : 0 < v ∧ v ≤ Z 1 0) (e : ¬ zsgn Z 0 v n = 0) (k : ∀ g, IV L g Z c (b + 1) → la_s h g → Q g (.inl (some (vi (zsgn Z 0 v n))))) : AC mX7_text fX7_text loX7_text 4 32 h [vr mF, vi 0, vi v, vi n] Q := by
  have e1 : zcTxt Z 0 v n = 0 := bz_0.mpr (fun z => z ⟨⟨⟨by decide, by rw [J.z0]; decide⟩, by omega, hv.2⟩, hv.1, e⟩)
  exact sX7_text J.S J.I J.W J.B.1 J.B.2 (fun z => by rw [e1] at z; cases z) (fun _ g F => k g (J.tx F) (la_tx F))
theorem t_field (J : IV L h Z c b) {v n : Int} (hv : 0 ≤ v ∧ v ≤ Z 1 0) (hn : 0 ≤ n ∧ n ≤ 25) (k : Q h (.inl (some (vi (zFie Z 0 v n))))) : AC mX7_field fX7_field loX7_field 4 24 h [vr mF, vi 0, vi v, vi n] Q := by
  have e1 : zcFie Z 0 v n = 0 := cd2_z (fun z => z ⟨⟨by decide, by rw [J.z0]; decide⟩, hv⟩) (fun z => z hn)
  exact sX7_field J.S J.I.1 (fun z => by rw [e1] at z; cases z) (fun z => by rw [e1] at z; cases z) (fun _ => k)
theorem q_stX (J : IV L h Z c b) {r x2 x3 : Int} (hr : ¬ (0 ≤ r ∧ r < Z 19 0)) (k : Q h (.inl (some (vi (-300))))) : AC mL_asks fL_asks loL_asks 2 12 h [vr mF, vi 4, vi r, vi x2, vi x3] Q :=
  kL_asks_standing J.F (sX7_standing J.S (fun _ => ⟨-300, by decide, k⟩) (fun z => absurd (show 0 ≤ r ∧ r < Z 19 0 by omega) hr))
theorem t_st (J : IV L h Z c b) {r : Int} (hr : 0 ≤ r ∧ r < Z 19 0) (k : Q h (.inl (some (vi (zStd Z r))))) : AC mX7_standing fX7_standing loX7_standing 2 12 h [vr mF, vi r] Q :=
  sX7_standing J.S (fun z => absurd (show 0 ≤ r ∧ r ≤ Z 19 0 - 1 by omega) z) (fun _ => k)
theorem q_reX (J : IV L h Z c b) {r x3 n : Int} (hr : ¬ (0 ≤ r ∧ r < Z 19 0)) (k : Q h (.inl (some (vi (-300))))) : AC mL_asks fL_asks loL_asks 4 24 h [vr mF, vi 3, vi r, vi n, vi x3] Q := by
  have e : zinR Z r n = -1 := by unfold zinR; rw [if_neg (by omega)]
  exact kL_asks_replayed J.F (sX7_replayed J.S (fun _ => ⟨-300, by decide, k⟩) (fun z => absurd e z))
theorem zRw.sy {x : Nat} (k : zRw Y Z x) : zRw Z Y x := ⟨k.1.symm, k.2.1.symm, fun f hf => (k.2.2.1 f hf).symm, fun f hf => (k.2.2.2.1 f hf).symm, fun f hf => (k.2.2.2.2 f hf).symm⟩
/-- a row seen leaves all as it was -/
theorem SIM.unsee {r v : Nat} (S : SIM g (zsee (zs Z 48 0 0) (r : Int) (v : Int)) c) (B : BB Z) (hv : v ≤ 23) (h2 : 0 ≤ Z 21 r ∧ Z 21 r ≤ 23) (h19 : Z 19 0 ≤ 20) : SIM g Z c := by
  obtain ⟨A, S⟩ := S
  have e : ∀ j, (j != 20 && offR j) = true → ¬ j = 48 → zsee (zs Z 48 0 0) (r : Int) (v : Int) j = Z j := fun j hj h48 => by
    rw [zsee_o hj, zs_oj (beq_ne h48)]
  have ex : ∀ x : Nat, ¬ x = 20 → zsee (zs Z 48 0 0) (r : Int) (v : Int) 20 x = Z 20 x ∧ zRw (zsee (zs Z 48 0 0) (r : Int) (v : Int)) Z x := fun x hx => by
    refine ⟨by rw [zsee_20x hx]; rfl, zRw.tr (zRw.o rfl : zRw (zs Z 48 0 0) Z x) ?_⟩
    have := zsee_x (Z := zs Z 48 0 0) (r := r) (v := (v : Int)) (x := x) B hx (by omega) h2
    exact this
  generalize zsee (zs Z 48 0 0) (r : Int) (v : Int) = Y at *
  have e0 := e 0 rfl (by decide)
  have e13 := e 13 rfl (by decide)
  have e19 := e 19 rfl (by decide)
  have e27 := e 27 rfl (by decide)
  have e28 := e 28 rfl (by decide)
  have e32 := e 32 rfl (by decide)
  obtain ⟨x1, x2, x3, x4, x5⟩ := S.ext (g := g) (Y := Z) Fr.rf (fun j hj => (e j (by
      simp only [Bool.or_eq_true, beq_iff_eq] at hj
      unfold offR
      simp only [Bool.and_eq_true, bne_iff_ne, ne_eq]
      omega) (by simp only [Bool.or_eq_true, beq_iff_eq] at hj; omega)).symm) (fun k _ => ⟨by rw [e 14 rfl (by decide)], by rw [e 15 rfl (by decide)], by rw [e 16 rfl (by decide)], fun f _ => ⟨by rw [e 17 rfl (by decide)], by rw [e 18 rfl (by decide)]⟩⟩)
    (fun x hx => ⟨(ex x (by rw [e19] at hx; omega)).1.symm, by rw [e 26 rfl (by decide)], (ex x (by rw [e19] at hx; omega)).2.sy⟩) (by rw [e27]; exact Int.le_refl _) (by rw [e19]; exact Int.le_refl _) (fun m _ => ⟨by rw [e 29 rfl (by decide)], by rw [e 30 rfl (by decide)], by rw [e 31 rfl (by decide)]⟩)
  have t := S.1
  have n := S.2.1
  refine ⟨A, ?_, ?_, fun s hs => x1 s (by rw [e0]; exact hs), fun k hk => x2 k (by rw [e13]; exact hk), fun k hk => x3 k (by rw [e19]; exact hk), fun k hk => x4 k (by rw [e28]; exact hk), fun k hk => x5 k (by rw [e32]; exact hk)⟩
  · unfold TP at *
    rw [e0, e13, e19, e27, e28, e32] at t
    exact t
  · unfold NF at *
    rw [e0, e13, e19, e28, e32, e 1 rfl (by decide)] at n
    exact n
theorem zcVal_n (J : IV L h Z c b) {r a : Nat} {n : Int} (hr : (r : Int) < Z 19 0) (h20 : Z 20 r = 0) (ha : (a : Int) ≤ Z 1 0) : zcVal Z (r : Int) (a : Int) n = zfind Z 0 (a : Int) n := by
  unfold zcVal
  rw [Int.toNat_natCast, h20, if_pos ⟨⟨by omega, by omega⟩, ⟨by omega, by rw [J.z0]; decide⟩, by omega, ha⟩]
theorem q_val (J : IV L h Z c b) {r a : Nat} {n : Int} (hr : (r : Int) < Z 19 0) (h20 : Z 20 r = 0) (h21 : 0 ≤ Z 21 r ∧ Z 21 r ≤ Z 1 0) (h19 : Z 19 0 ≤ 20) (ha : (a : Int) ≤ Z 1 0) (kE : zfind Z 0 (a : Int) n = -1 → Q h (.inl (some (vi (-300)))))
    (kO : ¬ zfind Z 0 (a : Int) n = -1 → ∀ g, IV L g Z c b → la_s h g → Q g (.inl (some (vi (zsee (zs Z 48 0 0) (r : Int) (a : Int) 22 (960 + (zfind Z 0 (a : Int) n).toNat)))))) : AC mL_asks fL_asks loL_asks 4 24 h [vr mF, vi 2, vi (r : Int), vi (a : Int), vi n] Q := by
  have e := zcVal_n J (n := n) hr h20 ha
  have K := J.K
  have b1 := K.b1
  have zr := zf_r K (a := (a : Int)) (n := n)
  refine kL_asks_value J.F (sX7_value J.S J.I.1 (fun z => ⟨-300, by decide, kE (by rw [← e]; exact z)⟩) (fun z g S F => ?_))
  rw [e] at z ⊢
  rw [show (960 + zfind Z 0 (a : Int) n).toNat = 960 + (zfind Z 0 (a : Int) n).toNat by omega]
  exact kO z g (J.mo F (S.unsee J.I.1.1.2.2.1 (by omega) (by omega) h19)) (la_mo F)
theorem q_valX (J : IV L h Z c b) {r a n : Int} (hr : ¬ ((0 ≤ r ∧ r < Z 19 0) ∧ 0 ≤ a ∧ a ≤ Z 1 (Z 20 r.toNat).toNat)) (k : Q h (.inl (some (vi (-300))))) : AC mL_asks fL_asks loL_asks 4 24 h [vr mF, vi 2, vi r, vi a, vi n] Q := by
  have e : zcVal Z r a n = -1 := by unfold zcVal; rw [if_neg (fun z => hr ⟨by omega, z.2.2⟩)]
  exact kL_asks_value J.F (sX7_value J.S J.I.1 (fun _ => ⟨-300, by decide, k⟩) (fun z => absurd e z))
theorem t_re (J : IV L h Z c b) {r : Nat} {n : Int} (hr : (r : Int) < Z 19 0) (h20 : Z 20 r = 0) (hf : ¬ zfind Z 0 (Z 21 r) n = -1) (k : Q h (.inl (some (vi (Z 22 (48 * r + (zfind Z 0 (Z 21 r) n).toNat)))))) : AC mX7_replayed fX7_replayed loX7_replayed 4 24 h [vr mF, vi (r : Int), vi n] Q := by
  have e : zinR Z (r : Int) n = zfind Z 0 (Z 21 r) n := by unfold zinR; rw [Int.toNat_natCast, h20, if_pos (by omega)]
  have zr := zf_r J.K (a := Z 21 r) (n := n)
  refine sX7_replayed J.S (fun z => absurd (e ▸ z) hf) (fun z => ?_)
  rw [e, show (48 * (r : Int) + zfind Z 0 (Z 21 r) n).toNat = 48 * r + (zfind Z 0 (Z 21 r) n).toNat by omega]
  exact k
end C1

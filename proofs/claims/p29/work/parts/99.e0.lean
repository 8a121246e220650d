/-! ===== one row changes: what is kept of the others ===== -/
section E0
variable {h g G : AH} {Z Y : ZT} {r t k : Nat} {c b L : Nat}
theorem VB.zr (e : ∀ j, sj j = true → Y j = Z j) (z : zRw Y Z r) (B : VB Z r) : VB Y r := by
  obtain ⟨z1, z2, z3, z4, z5⟩ := z
  refine VB.byS e (fun f hf => by rw [z3 f hf]; exact B.x hf) (by rw [z1]; exact B.v) (fun w hw => ?_)
  have q0 := z5 (2 * w) (by omega)
  have q1 := z5 (2 * w + 1) (by omega)
  rw [show 48 * r + 2 * w = 2 * (24 * r + w) by omega] at q0
  rw [show 48 * r + (2 * w + 1) = 2 * (24 * r + w) + 1 by omega] at q1
  rw [z4 w hw, q0, q1]
  exact B.w hw
theorem zRw.zz {j i : Nat} {v : Int} (z : zRw Y Z r) : zRw (zs Y j i v) (zs Z j i v) r := by
  have o : ∀ a b, Y a b = Z a b → Jvm.Pilot.CFieldMigratorLaw_law_r9763_1955e4.zs Y j i v a b = Jvm.Pilot.CFieldMigratorLaw_law_r9763_1955e4.zs Z j i v a b := fun a b q => by
    unfold Jvm.Pilot.CFieldMigratorLaw_law_r9763_1955e4.zs; rw [q]
  exact ⟨o _ _ z.1, o _ _ z.2.1, fun f hf => o _ _ (z.2.2.1 f hf), fun f hf => o _ _ (z.2.2.2.1 f hf), fun f hf => o _ _ (z.2.2.2.2 f hf)⟩
/-- the notes of the step t, the row r, the schema agree -/
def ER (r t : Nat) (Y Z : ZT) : Prop := (∀ j, sj j = true → Y j = Z j) ∧ Y 20 r = Z 20 r ∧ (Y 34 t = Z 34 t ∧ Y 37 t = Z 37 t ∧ Y 38 t = Z 38 t ∧ Y 39 t = Z 39 t) ∧ (∀ j, j < 2 → Y 40 (2 * t + j) = Z 40 (2 * t + j) ∧ Y 41 (2 * t + j) = Z 41 (2 * t + j) ∧ Y 42 (2 * t + j) = Z 42 (2 * t + j)) ∧ zRw Y Z r
theorem ER.zs {j i : Nat} {v v' : Int} (E : ER r t Y Z) (hj : (j == 21 || j == 22 || j == 23 || j == 24 || j == 25 || j == 48) = true) (hv : v = v') : ER r t (zs Y j i v) (zs Z j i v') := by
  subst hv
  have o : ∀ (X : ZT) a, ¬ a = j → Jvm.Pilot.CFieldMigratorLaw_law_r9763_1955e4.zs X j i v a = X a := fun X a ha => zs_oj (beq_ne ha)
  simp only [Bool.or_eq_true, beq_iff_eq] at hj
  obtain ⟨e1, e2, ⟨e3, e4, e5, e6⟩, e7, e8⟩ := E
  refine ⟨fun a ha => ?_, ?_, ⟨?_, ?_, ?_, ?_⟩, fun a ha => ⟨?_, ?_, ?_⟩, e8.zz⟩
  · have : ¬ a = j := fun q => by
      subst q
      unfold sj at ha
      simp only [Bool.or_eq_true, beq_iff_eq] at ha
      omega
    rw [o Y a this, o Z a this]; exact e1 a ha
  · rw [o Y 20 (by omega), o Z 20 (by omega)]; exact e2
  · rw [o Y 34 (by omega), o Z 34 (by omega)]; exact e3
  · rw [o Y 37 (by omega), o Z 37 (by omega)]; exact e4
  · rw [o Y 38 (by omega), o Z 38 (by omega)]; exact e5
  · rw [o Y 39 (by omega), o Z 39 (by omega)]; exact e6
  · rw [o Y 40 (by omega), o Z 40 (by omega)]; exact (e7 a ha).1
  · rw [o Y 41 (by omega), o Z 41 (by omega)]; exact (e7 a ha).2.1
  · rw [o Y 42 (by omega), o Z 42 (by omega)]; exact (e7 a ha).2.2
theorem ER.zon (E : ER r t Y Z) (p u j : Int) : zon Y p u j = zon Z p u j := by
  unfold Jvm.Pilot.CFieldMigratorLaw_law_r9763_1955e4.zon zfr zbe
  rw [E.1 7 rfl, E.1 8 rfl, E.1 9 rfl]
theorem ER.zv {q f f' x x' : Int} (E : ER r t Y Z) (ef : f = f') (ex : x = x') : ER r t (zv Y q f x) (zv Z q f' x') := by
  subst ef; subst ex
  unfold Jvm.Pilot.CFieldMigratorLaw_law_r9763_1955e4.zv
  split
  · exact E
  · exact E.zs rfl rfl
theorem two_t {j : Nat} : (2 * (t : Int) + (j : Int)).toNat = 2 * t + j := by omega
theorem ER.zUb {x p q : Int} {y : Nat} (hy : y < 2) (E : ER r t Y Z) : ER r t (zUb Y x p q (t : Int) (y : Int)) (zUb Z x p q (t : Int) (y : Int)) := by
  unfold Jvm.Pilot.CFieldMigratorLaw_law_r9763_1955e4.zUb
  have w := E.2.2.2.1 y hy
  rw [two_t]
  have E1 := E.zs (j := 25) (i := (2 * q + (y : Int)).toNat) rfl w.1
  exact E1.zv (E1.zon p 0 (y : Int)) (by
    show Y 42 (2 * t + y) = Z 42 (2 * t + y)
    exact w.2.2)
theorem ER.zUf {x p i : Int} {y : Nat} (hy : y < 2) (E : ER r t Y Z) : ER r t (zUf Y x p (t : Int) i (y : Int)) (zUf Z x p (t : Int) i (y : Int)) := by
  unfold Jvm.Pilot.CFieldMigratorLaw_law_r9763_1955e4.zUf
  have q := E.2.2.2.1 y hy
  rw [two_t, Int.toNat_natCast, E.2.2.1.2.1, E.1 7 rfl, E.zon p 1 (y : Int), q.2.1]
  split
  · exact E.zv rfl rfl
  · exact E
theorem zUnd_er {m : Int} (E : ER r t Y Z) (h34 : Z 34 t = (r : Int)) : (∀ j, sj j = true → zUnd Y m (t : Int) j = zUnd Z m (t : Int) j) ∧ zRw (zUnd Y m (t : Int)) (zUnd Z m (t : Int)) r := by
  have e34 : Y 34 t = (r : Int) := E.2.2.1.1.trans h34
  have ea : zundA Y (r : Int) (t : Int) = zundA Z (r : Int) (t : Int) := by
    unfold zundA
    rw [Int.toNat_natCast, Int.toNat_natCast, E.2.2.1.2.1, E.2.2.2.2.1]
  have e20 := E.2.1
  obtain ⟨-, -, ⟨-, e37, e38, e39⟩, -⟩ := id E
  have q : ER r t (zUnd2 Y (r : Int) (t : Int)) (zUnd2 Z (r : Int) (t : Int)) := by
    unfold zUnd2 zUnd1 zUnd0
    rw [ea, Int.toNat_natCast, Int.toNat_natCast, e20, e37, e38, e39]
    exact ER.zUf (y := 1) (by decide) (ER.zUf (y := 0) (by decide) (ER.zUb (y := 1) (by decide) (ER.zUb (y := 0) (by decide) (ER.zs (ER.zs (ER.zs (ER.zs E rfl rfl) rfl rfl) rfl rfl) rfl rfl))))
  unfold zUnd
  rw [Int.toNat_natCast, h34, e34]
  have o : ∀ (X : ZT) a b d, (a == 21 || a == 22 || a == 23 || a == 24 || a == 25 || sj a) = true → zs (zs X 26 (r : Int).toNat b) 31 m.toNat d a = X a := fun X a b d ha => by
    have : ¬ a = 26 ∧ ¬ a = 31 := by
      unfold sj at ha
      simp only [Bool.or_eq_true, beq_iff_eq] at ha
      omega
    rw [zs_oj (beq_ne this.2), zs_oj (beq_ne this.1)]
  refine ⟨fun j hj => ?_, ?_⟩
  · have hj' : (j == 21 || j == 22 || j == 23 || j == 24 || j == 25 || sj j) = true := by rw [hj, Bool.or_true]
    rw [o _ j _ _ hj', o _ j _ _ hj']
    exact q.1 j hj
  · have z := q.2.2.2.2
    unfold zRw at *
    rw [o _ 21 _ _ rfl, o _ 21 _ _ rfl, o _ 22 _ _ rfl, o _ 22 _ _ rfl, o _ 23 _ _ rfl, o _ 23 _ _ rfl, o _ 24 _ _ rfl, o _ 24 _ _ rfl, o _ 25 _ _ rfl, o _ 25 _ _ rfl]
    exact z
/-- the copies of mover k stand -/
def LK2 (h g : AH) (k : Nat) : Prop := (∀ j : Nat, j < 12 → hI g (la 10) (12 * k + j) = hI h (la 10) (12 * k + j)) ∧ ∀ j : Nat, 1 ≤ j → j < 12 → hL g (la 11) (13 * k + j) = hL h (la 11) (13 * k + j)
theorem LU.kp {X X' : ZT} (e : LK2 h g k) (z : zRw X' X r) (U : LU h X k r) : LU g X' k r := by
  obtain ⟨u1, u2, u3, u4⟩ := U
  obtain ⟨z1, z2, z3, z4, z5⟩ := z
  refine ⟨fun j hj => by rw [e.1 j (by omega), z3 j (by omega)]; exact u1 j hj, by rw [e.1 10 (by decide), z1]; exact u2, by rw [e.1 11 (by decide), z2]; exact u3, fun w h1 h2 => ?_⟩
  rw [e.2 w h1 h2, u4 w h1 h2]
  have q0 := z5 (2 * w) (by omega)
  have q1 := z5 (2 * w + 1) (by omega)
  rw [show 48 * r + 2 * w = 2 * (24 * r + w) by omega] at q0
  rw [show 48 * r + (2 * w + 1) = 2 * (24 * r + w) + 1 by omega] at q1
  unfold zbxv
  rw [z4 w (by omega), q0, q1]
theorem UD.kp (e : LK2 h g k) (U : UD h Z k r) (e31 : Y 31 k = Z 31 k) (e32 : Z 32 0 ≤ Y 32 0) (e26 : Y 26 r = Z 26 r) (e35 : Y 35 (Z 31 k).toNat = Z 35 (Z 31 k).toNat) (E : ER r (Z 31 k).toNat Y Z) : UD g Y k r := by
  obtain ⟨u1, u2, u3, u4, u5⟩ := U
  have et : (((Z 31 k).toNat : Nat) : Int) = Z 31 k := Int.toNat_of_nonneg u1.1
  obtain ⟨q1, q2⟩ := zUnd_er (m := (k : Int)) E u2
  rw [et] at q1 q2
  unfold UD
  rw [e31]
  exact ⟨⟨u1.1, by omega⟩, by rw [E.2.2.1.1]; exact u2, by rw [e26, e35]; exact u3, u4.kp e q2, u5.zr q1 q2⟩
/-- the notes of the steps stand -/
def NTs (Y Z : ZT) : Prop := ∀ t : Nat, (t : Int) < Z 32 0 → (Y 34 t = Z 34 t ∧ Y 35 t = Z 35 t ∧ Y 37 t = Z 37 t ∧ Y 38 t = Z 38 t ∧ Y 39 t = Z 39 t) ∧ ∀ j, j < 2 → Y 40 (2 * t + j) = Z 40 (2 * t + j) ∧ Y 41 (2 * t + j) = Z 41 (2 * t + j) ∧ Y 42 (2 * t + j) = Z 42 (2 * t + j)
/-- a row, a mover's flag change -/
theorem JV.rw0 {r0 mv : Nat} (J : JV h Z) (F : FL (fun j => j = 5 ∨ j = 6 ∨ j = 7 ∨ j = 8 ∨ j = 9 ∨ j = 10 ∨ j = 11) h g) (eS : ∀ j, sj j = true → Y j = Z j) (e19 : Y 19 0 = Z 19 0) (e28 : Y 28 0 = Z 28 0) (e20 : Y 20 = Z 20) (eR : ∀ r : Nat, (r : Int) < Z 19 0 → ¬ r = r0 → zRw Y Z r ∧ Y 26 r = Z 26 r) (eT : NTs Y Z) (e32 : Z 32 0 ≤ Y 32 0) (hz : FZ g Z)
    (rows : ∀ r : Nat, ¬ r = r0 → (r : Int) < Z 19 0 → LR h Z r r → LR g Z r r) (row0 : (r0 : Int) < Z 19 0 → LR g Y r0 r0 ∧ VB Y r0) (m29 : Y 29 = Z 29) (m30 : Y 30 = Z 30)
    (mA : ∀ k : Nat, (k : Int) < Z 28 0 → ¬ k = mv → (hI g (la 8) (3 * k) = hI h (la 8) (3 * k) ∧ hI g (la 8) (3 * k + 1) = hI h (la 8) (3 * k + 1)) ∧ hI g (la 8) (3 * k + 2) = (if hI h (la 8) (3 * k + 1) = (r0 : Int) then 0 else hI h (la 8) (3 * k + 2)) ∧ Y 31 k = Z 31 k ∧ LK2 h g k)
    (mB : (mv : Int) < Z 28 0 → hI g (la 8) (3 * mv) = hI h (la 8) (3 * mv) ∧ (0 ≤ hI g (la 8) (3 * mv + 1) ∧ hI g (la 8) (3 * mv + 1) < Z 19 0) ∧ (hI g (la 8) (3 * mv + 2) = 0 ∨ (hI g (la 8) (3 * mv + 2) = 1 ∧ hI g (la 8) (3 * mv + 1) = (r0 : Int) ∧ UD g Y mv r0))) : JV g Y := by
  have m4 : ∀ i, hI g (la 4) i = hI h (la 4) i := F.I (by decide)
  have U := J.m
  have e1 := eS 1 rfl
  refine ⟨(J.s.fl F (by decide) (by decide) (by decide) (by decide)).o eS, ?_, ?_, fun r hr => ?_, ⟨fun k hk => ?_, fun k k' hk hk' n a1 a2 => ?_⟩, fun r w h1 h2 h3 h4 => hz r w (by rw [← e19]; exact h1) h2 h3 h4⟩
  · rw [m4, e19]; exact J.2.1
  · rw [m4, e28]; exact J.2.2.1
  · rw [e19] at hr
    rw [e20]
    by_cases er : r = r0
    · subst er
      exact ⟨(row0 hr).1, (row0 hr).2, (J.r hr).2.2⟩
    · obtain ⟨R, B, h20⟩ := J.r hr
      exact ⟨(rows r er hr R).zr (eR r hr er).1, B.zr eS (eR r hr er).1, h20⟩
  · rw [e28] at hk
    rw [m29, m30, e19, e1]
    obtain ⟨u1, u2⟩ := U.1 k hk
    by_cases ek : k = mv
    · subst ek
      obtain ⟨b0, b1, b2⟩ := mB hk
      rw [b0]
      exact ⟨u1, Or.inr ⟨b1, b2.imp (fun z => z) (fun z => ⟨z.1, by rw [z.2.1, Int.toNat_natCast]; exact z.2.2⟩)⟩⟩
    · obtain ⟨⟨a0, a1⟩, a2, a3, a4⟩ := mA k hk ek
      rw [a0, a1, a2, a3]
      refine ⟨u1, ?_⟩
      rcases u2 with ⟨z1, z2, z3⟩ | ⟨z1, z2⟩
      · exact Or.inl ⟨z1, z2, by rw [z3]; split <;> rfl⟩
      · refine Or.inr ⟨z1, ?_⟩
        by_cases er : hI h (la 8) (3 * k + 1) = (r0 : Int)
        · rw [if_pos er]; exact Or.inl rfl
        · rw [if_neg er]
          refine z2.imp (fun z => z) (fun z => ⟨z.1, ?_⟩)
          obtain ⟨y1, y2⟩ := eR (hI h (la 8) (3 * k + 1)).toNat (by omega) (by omega)
          have ut := z.2.1
          obtain ⟨⟨n1, n2, n3, n4, n5⟩, n6⟩ := eT (Z 31 k).toNat (by omega)
          exact z.2.kp a4 a3 e32 y2 n2 ⟨eS, by rw [e20], ⟨n1, n3, n4, n5⟩, n6, y1⟩
  · rw [e28] at hk hk'
    have key : ∀ i i' : Nat, (i : Int) < Z 28 0 → (i' : Int) < Z 28 0 → i = mv → ¬ i' = mv → hI g (la 8) (3 * i + 2) = 1 → hI g (la 8) (3 * i' + 2) = 1 → ¬ hI g (la 8) (3 * i + 1) = hI g (la 8) (3 * i' + 1) := by
      intro i i' hi hi' ei ei' x1 x2
      subst ei
      obtain ⟨b0, b1, b2⟩ := mB hi
      obtain ⟨⟨a0, a1'⟩, a2', a3, a4⟩ := mA i' hi' ei'
      rw [a2'] at x2
      split at x2
      · exact absurd x2 (by decide)
      · next er => rw [a1']; omega
    by_cases ek : k = mv
    · exact key k k' hk hk' ek (by omega) a1 a2
    · by_cases ek' : k' = mv
      · exact fun z => key k' k hk' hk ek' ek a2 a1 z.symm
      · obtain ⟨⟨x0, x1⟩, x2, x3, x4⟩ := mA k hk ek
        obtain ⟨⟨y0, y1⟩, y2, y3, y4⟩ := mA k' hk' ek'
        rw [x1, y1]
        rw [x2] at a1
        rw [y2] at a2
        split at a1
        · exact absurd a1 (by decide)
        · split at a2
          · exact absurd a2 (by decide)
          · exact U.2 k k' hk hk' n a1 a2
end E0

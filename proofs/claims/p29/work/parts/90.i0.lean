/-! ===== the relation: rows seen, rows touched ===== -/
section I0
variable {Q : AH → AO → Prop} {h g G : AH} {Z Y : ZT} {c q s a b r : Nat} {A : Nat → Nat}
theorem Fr.kccp {a' b' : Nat} {P : Nm → Prop} (F : Fr P h g) (hP : ∀ j, ¬ P (a', b', j)) : Fr P h (ccp g a' b' a b) := by
  unfold ccp ccp0
  exact ((((F.wI (hP _)).wI (hP _)).cp (hP _)).cp (hP _)).cp (hP _)
theorem ccp_S {a' b' x y : Nat} (W : StaW h x y) : StaW (ccp h a' b' a b) x y := W
theorem ccp_I {a' b' : Nat} (ha : ¬ a = a') : (hI (ccp h a' b' a b) (a', b', 0) 0 = hI h (a, b, 0) 0 ∧ hI (ccp h a' b' a b) (a', b', 0) 1 = hI h (a, b, 0) 1) ∧ (∀ i, i < 46 → hI (ccp h a' b' a b) (a', b', 1) i = hI h (a, b, 1) i) ∧ (∀ i, i < 48 → hI (ccp h a' b' a b) (a', b', 2) i = hI h (a, b, 2) i) ∧ (∀ i, i < 96 → hI (ccp h a' b' a b) (a', b', 3) i = hI h (a, b, 3) i) := by
  have n1 : ∀ j k, ¬ ((a, b, j) : Nm) = (a', b', k) := fun j k e => ha (congrArg (fun n : Nm => n.1) e)
  have n2 : ∀ j k, ¬ j = k → ¬ ((a', b', j) : Nm) = (a', b', k) := fun j k hj e => hj (congrArg (fun n : Nm => n.2.2) e)
  unfold ccp ccp0
  refine ⟨⟨?_, ?_⟩, fun i hi => ?_, fun i hi => ?_, fun i hi => ?_⟩
  · rw [hI_cpI, if_neg (fun z => n2 0 3 (by decide) z.1), hI_cpI, if_neg (fun z => n2 0 2 (by decide) z.1), hI_cpI, if_neg (fun z => n2 0 1 (by decide) z.1), hI_m (by decide) (hI_e rfl rfl)]
  · rw [hI_cpI, if_neg (fun z => n2 0 3 (by decide) z.1), hI_cpI, if_neg (fun z => n2 0 2 (by decide) z.1), hI_cpI, if_neg (fun z => n2 0 1 (by decide) z.1), hI_e rfl rfl]
  · rw [hI_cpI, if_neg (fun z => n2 1 3 (by decide) z.1), hI_cpI, if_neg (fun z => n2 1 2 (by decide) z.1), hI_cpI, if_pos ⟨rfl, hi⟩, hI_sI, if_neg (fun z => n1 _ _ z.1), hI_sI, if_neg (fun z => n1 _ _ z.1)]
  · rw [hI_cpI, if_neg (fun z => n2 2 3 (by decide) z.1), hI_cpI, if_pos ⟨rfl, hi⟩, hI_cpI, if_neg (fun z => n1 _ _ z.1), hI_sI, if_neg (fun z => n1 _ _ z.1), hI_sI, if_neg (fun z => n1 _ _ z.1)]
  · rw [hI_cpI, if_pos ⟨rfl, hi⟩, hI_cpI, if_neg (fun z => n1 _ _ z.1), hI_cpI, if_neg (fun z => n1 _ _ z.1), hI_sI, if_neg (fun z => n1 _ _ z.1), hI_sI, if_neg (fun z => n1 _ _ z.1)]
/-- the model's copy -/
theorem zcpy_n {q' : Nat} : zcpy Z q q' 20 q' = Z 20 q ∧ zcpy Z q q' 21 q' = Z 21 q ∧ zcpy Z q q' 23 q' = Z 23 q ∧ (∀ f : Nat, f < 48 → zcpy Z q q' 22 (48 * q' + f) = Z 22 (48 * q + f)) ∧ (∀ w : Nat, w < 24 → zcpy Z q q' 24 (24 * q' + w) = Z 24 (24 * q + w)) ∧ (∀ j : Nat, j < 48 → zcpy Z q q' 25 (48 * q' + j) = Z 25 (48 * q + j)) := by
  refine ⟨zcpy_20, zcpy_21, ?_, fun f hf => ?_, fun w hw => ?_, fun j hj => ?_⟩
  · unfold zcpy
    exact zbl_ne rfl (zbl_ne rfl (zbl_ne rfl (by unfold zcp0; exact zs_eq rfl rfl)))
  · unfold zcpy
    refine zbl_ne rfl (zbl_ne rfl ?_)
    unfold zbl
    rw [if_pos ⟨rfl, by omega, by omega⟩, show 48 * q' + f - 48 * q' + 48 * q = 48 * q + f by omega]
    rfl
  · unfold zcpy
    refine zbl_ne rfl ?_
    unfold zbl
    rw [if_pos ⟨rfl, by omega, by omega⟩, show 24 * q' + w - 24 * q' + 24 * q = 24 * q + w by omega, if_neg (fun z => absurd z.1 (by decide))]
    rfl
  · unfold zcpy
    conv => lhs; unfold zbl
    rw [if_pos ⟨rfl, by omega, by omega⟩, show 48 * q' + j - 48 * q' + 48 * q = 48 * q + j by omega]
    rfl
theorem zcpy_x {q' : Nat} {x : Nat} (hx : ¬ x = q') : zcpy Z q q' 20 x = Z 20 x ∧ zcpy Z q q' 21 x = Z 21 x ∧ zcpy Z q q' 23 x = Z 23 x ∧ (∀ f : Nat, f < 48 → zcpy Z q q' 22 (48 * x + f) = Z 22 (48 * x + f)) ∧ (∀ w : Nat, w < 24 → zcpy Z q q' 24 (24 * x + w) = Z 24 (24 * x + w)) ∧ (∀ j : Nat, j < 48 → zcpy Z q q' 25 (48 * x + j) = Z 25 (48 * x + j)) := by
  have z0 : ∀ j, zcp0 Z q q' j x = Z j x := fun j => by
    unfold zcp0
    unfold zs
    rw [if_neg (fun z => hx z.2), if_neg (fun z => hx z.2), if_neg (fun z => hx z.2)]
  unfold zcpy
  refine ⟨?_, ?_, ?_, fun f hf => ?_, fun w hw => ?_, fun j hj => ?_⟩
  · exact zbl_ne rfl (zbl_ne rfl (zbl_ne rfl (z0 20)))
  · exact zbl_ne rfl (zbl_ne rfl (zbl_ne rfl (z0 21)))
  · exact zbl_ne rfl (zbl_ne rfl (zbl_ne rfl (z0 23)))
  · exact zbl_ne rfl (zbl_ne rfl (zbl_out (by omega) rfl))
  · exact zbl_ne rfl (zbl_out (by omega) (zbl_ne rfl rfl))
  · exact zbl_out (by omega) (zbl_ne rfl (zbl_ne rfl rfl))
theorem zcpy_sv {q' : Nat} : zSv (zcpy Z q q') Z := fun j hj => zcpy_o (by
  simp only [Bool.or_eq_true, beq_iff_eq] at hj
  rcases hj with ((((((((h | h) | h) | h) | h) | h) | h) | h) | h) | h <;> subst h <;> rfl)
theorem RW.cpy {a' b' q' : Nat} (W : StaW h a' b') (ha : ¬ a = a') (R : RW h Z s a b q) : RW (ccp h a' b' a b) (zcpy Z q q') s a' b' q' := by
  obtain ⟨⟨i0, i1⟩, j1, j2, j3⟩ := ccp_I (h := h) (a := a) (b := b) (a' := a') (b' := b') ha
  obtain ⟨e20, e21, e23, e22, e24, e25⟩ := zcpy_n (Z := Z) (q := q) (q' := q')
  obtain ⟨⟨r1, r2, r3⟩, k1, k2, k3, k4⟩ := R
  have sv : zSv (zcpy Z q q') Z := zcpy_sv
  refine ⟨⟨by rw [i0, e21]; exact r1, by rw [e21]; exact r2, by rw [e21, sv 1 rfl]; exact r3⟩, W, by rw [i1, e23]; exact k2, ?_, ?_⟩
  · unfold RVl at k3 ⊢
    intro f hf
    rw [e21, sv 5 rfl, j1 f hf, e22 f (by omega)]
    exact k3 f hf
  · intro v hv
    obtain ⟨m1, m2, m3, m4, m5, m6⟩ := k4 v hv
    unfold RB1
    have e250 := e25 (2 * v) (by omega)
    have e251 := e25 (2 * v + 1) (by omega)
    rw [show 48 * q' + 2 * v = 2 * (24 * q' + v) by omega, show 48 * q + 2 * v = 2 * (24 * q + v) by omega] at e250
    rw [show 48 * q' + (2 * v + 1) = 2 * (24 * q' + v) + 1 by omega, show 48 * q + (2 * v + 1) = 2 * (24 * q + v) + 1 by omega] at e251
    rw [sv 1 rfl, sv 7 rfl, e24 v hv, e250, e251, j2 _ (by omega), j2 _ (by omega), j3 _ (by omega), j3 _ (by omega), j3 _ (by omega), j3 _ (by omega)]
    exact ⟨m1, m2, m3, m4, m5, m6⟩
theorem sX7_see {v : Int} (S : SIMq A 9 h Z c) (hr : (r : Int) < Z 19 0) (hv : 0 ≤ v ∧ v ≤ Z 1 (Z 20 r).toNat)
    (k : ∀ g, Fr (nOf (Z 20 r).toNat 12 0) h g → SV g Z (Z 20 r).toNat → SB g (Z 20 r).toNat → RW g (zsee Z r v) (Z 20 r).toNat 12 0 20 → Q g (.inl none)) : AC mX7_see fX7_see loX7_see 0 0 h [vr mF, vr (9, r, 0), vi v] Q := by
  have W := S.1.1
  have V12 := S.1.2.2.2.1
  obtain ⟨RWr, r2, R3, -⟩ := S.2.2.2.2.1 r hr
  obtain ⟨S1, K, SQ1⟩ := S.sc (s := (Z 20 r).toNat) (by omega)
  have SQ1 := SQ1 (by have := S.zz; omega)
  have B5 := S1.sb K (by rw [SQ1.1]; exact SQ1.2.1)
  have e20 : (((Z 20 r).toNat : Nat) : Int) = Z 20 r := by omega
  have F1 : Fr (nOf (Z 20 r).toNat 12 0) h (ccp h 12 0 13 r) := Fr.rf.kccp (fun j z => z.1 ⟨rfl, rfl⟩)
  have S2 : SV (ccp h 12 0 13 r) Z (Z 20 r).toNat := S1.fr2 (F1.mo (nSv_nOf (by decide))) S1.1 zSv.rf
  have B6 : SB (ccp h 12 0 13 r) (Z 20 r).toNat := by
    have e : ∀ i, hI (ccp h 12 0 13 r) (4, (Z 20 r).toNat, 0) i = hI h (4, (Z 20 r).toNat, 0) i := F1.I (nSv_nOf (by decide) _ (Or.inl ⟨rfl, rfl, Or.inl (Nat.zero_le _)⟩))
    unfold SB
    rw [e, e, e]
    exact B5
  have R4 := R3.cpy (a' := 12) (b' := 0) (q' := 20) V12 (by decide)
  have W5 := S1.1
  have W6 := S2.1
  refine AC.mk (by decide) (Nat.le_of_ble_eq_true rfl) ?_
  refine AW.aload_n dX7_see_0 rfl ?_
  refine AW.getRE (j := 5) W.o dX7_see_1 lkX7_42 rfl rfl inC8 rfl W.r5 ?_
  refine AW.aload_n dX7_see_4 rfl ?_
  refine AW.getRE (j := 1) RWr.o dX7_see_5 lkX7_320 rfl rfl inC4 rfl RWr.r1 ?_
  refine AW.callV (as := [vq _]) dX7_see_8 rfl rfl rfl okX5_copyFrom lkX7_328 V12.o rfl rfl rfl rfl rfl rfl rfl (kX5_copyFrom V12 R3.2.1 rfl R3.isB (AW.k0 ?_))
  refine AW.aload_n dX7_see_11 rfl ?_
  refine AW.getRE (j := 0) RWr.o dX7_see_12 lkX7_302 rfl rfl inC4 rfl RWr.r0 ?_
  refine AW.aload_n dX7_see_15 rfl ?_
  refine AW.getRE (j := 5) W.o dX7_see_16 lkX7_42 rfl rfl inC8 rfl W.r5 ?_
  refine AW.iload_n dX7_see_19 rfl ?_
  refine AW.callV (as := [vq _, vi _]) dX7_see_20 rfl rfl rfl okX4_bring lkX7_324 W6.o rfl rfl rfl rfl rfl rfl rfl (sX4_bring (Z := zcpy Z r 20) (q := 20) (S2.z zcpy_sv) (K.c zcpy_sv) B6 R4 (by decide) (by rw [zcpy_sv 1 rfl]; exact hv) (fun g F S3 B3 R5 => (AW.k0 ?_)))
  refine AW.vret dX7_see_23 rfl ?_
  refine k g (F1.tr F) (S3.z (fun j hj => (zcpy_sv j hj).symm)) B3 ?_
  unfold zsee
  rw [Int.toNat_natCast, ← e20]
  exact R5
/-- the fields of the model that a row's call touches -/
def rwj (j : Nat) : Bool := j == 20 || j == 21 || j == 22 || j == 23 || j == 24 || j == 25 || j == 26 || j == 27 || j == 43 || j == 44 || j == 45 || j == 48
/-- row x alike -/
def zRw (Y Z : ZT) (x : Nat) : Prop := Y 21 x = Z 21 x ∧ Y 23 x = Z 23 x ∧ (∀ f : Nat, f < 48 → Y 22 (48 * x + f) = Z 22 (48 * x + f)) ∧ (∀ w : Nat, w < 24 → Y 24 (24 * x + w) = Z 24 (24 * x + w)) ∧ (∀ j : Nat, j < 48 → Y 25 (48 * x + j) = Z 25 (48 * x + j))
/-- off the row r, the row seen, a scratch -/
def nRw (s r : Nat) (n : Nm) : Prop := ¬ n.1 = 12 ∧ ¬ (n.1 = 13 ∧ n.2.1 = r) ∧ ¬ n = (9, r, 0) ∧ ¬ scn s n
theorem SIMq.rw {c' : Nat} (S : SIMq A 9 h Z c) (F : Fr (nRw s r) h g) (hs : (s : Int) < Z 0 0) (hr : (r : Int) < Z 19 0) (V12 : StaW g 12 0) (Ws : SchW g s) (o : ∀ j, rwj j = false → Y j = Z j)
    (oq : ∀ x : Nat, x < 20 → Y 20 x = Z 20 x ∧ (¬ x = r → Y 26 x = Z 26 x ∧ zRw Y Z x)) (a27 : Z 27 0 ≤ Y 27 0 ∧ Y 27 0 ≤ (c' : Int)) (hc : c ≤ c') (hR : RR A g Y r) : SIMq A 9 g Y c' := by
  have zz := S.zz
  have z19 := S.c19
  have n0 : ∀ x y z : Nat, ¬ x = 4 → ¬ x = 12 → ¬ x = 13 → ¬ x = 9 → nRw s r (x, y, z) := fun x y z e4 e12 e13 e9 => ⟨e12, fun w => e13 w.1, fun w => e9 (congrArg (fun n : Nm => n.1) w), fun w => e4 w.1⟩
  have n4 : ∀ y z : Nat, (z ≤ 6 ∨ 11 ≤ z) → nRw s r (4, y, z) := fun y z hz => ⟨by simp, fun w => absurd w.1 (by simp), fun w => by simp at w, fun w => by have := w.2.2; dsimp only at this; omega⟩
  have n14 : ∀ y z : Nat, nRw s r (14, y, z) := fun y z => n0 _ _ _ (by decide) (by decide) (by decide) (by decide)
  have sv : zSv Y Z := fun j hj => o j (by
    simp only [Bool.or_eq_true, beq_iff_eq] at hj
    rcases hj with ((((((((h | h) | h) | h) | h) | h) | h) | h) | h) | h <;> subst h <;> rfl)
  obtain ⟨⟨t1, t2, t3, t4, t6, t5⟩, ⟨f1, f2, f3, f4, f5, f6⟩, sc, ff, rr, mm, kk⟩ := S
  refine ⟨⟨t1.f F (fun j => n0 _ _ _ (by decide) (by decide) (by decide) (by decide)), t2.f F (fun j => n0 _ _ _ (by decide) (by decide) (by decide) (by decide)), ?_, ?_, ?_, ?_⟩, ⟨?_, ?_, ?_, ?_, ?_, ?_⟩, ?_, ?_, ?_, ?_, ?_⟩
  · have n3 : ∀ j, nRw s r (3, j, 0) := fun j => n0 _ _ _ (by decide) (by decide) (by decide) (by decide)
    rw [F.I (n3 _), F.I (n3 _), F.I (n3 _), F.I (n3 _), F.I (n3 _), o 0 rfl, o 13 rfl, o 19 rfl, o 28 rfl, o 32 rfl]; exact t3
  · exact V12
  · intro s' h1
    rw [o 0 rfl] at h1
    rw [F.I (n4 _ 0 (by omega))]; exact t6 s' h1
  · rw [o 32 rfl]; omega
  · intro s' i h1 h2
    rw [o 0 rfl] at h2
    rw [F.T (n := (4, s', i)) ⟨by simp, fun w => absurd w.1 (by simp), fun w => by simp at w, fun w => by have := w.2.1; dsimp only at this; omega⟩]; exact f1 s' i h1 h2
  · intro s' v h1 h3 h2
    rw [o 0 rfl, o 1 rfl] at h2
    have n57 : ∀ x, (x = 5 ∨ x = 6 ∨ x = 7) → nRw s r (x, 24 * s' + v, 0) := fun x hx => n0 _ _ _ (by omega) (by omega) (by omega) (by omega)
    rw [F.T (n57 5 (by decide)), F.T (n57 6 (by decide)), F.T (n57 7 (by decide))]; exact f2 s' v h1 h3 h2
  · intro k h1
    rw [o 13 rfl] at h1
    rw [F.T (n0 _ _ _ (by decide) (by decide) (by decide) (by decide))]; exact f3 k h1
  · intro x h1
    rw [o 19 rfl] at h1
    obtain ⟨y1, y2⟩ := f4 x h1
    refine ⟨?_, fun i => ?_⟩
    · rw [F.T (n := (9, x, 0)) ⟨by simp, fun w => absurd w.1 (by simp), fun w => by have := congrArg (fun n : Nm => n.2.1) w; dsimp only at this; omega, fun w => absurd w.1 (by simp)⟩]; exact y1
    · rw [F.T (n := (13, x, i)) ⟨by simp, fun w => by have := w.2; dsimp only at this; omega, fun w => by simp at w, fun w => absurd w.1 (by simp)⟩]; exact y2 i
  · intro m h1
    rw [o 28 rfl] at h1
    rw [F.T (n0 _ _ _ (by decide) (by decide) (by decide) (by decide))]; exact f5 m h1
  · intro k h1
    rw [o 32 rfl] at h1
    rw [F.T (n0 _ _ _ (by decide) (by decide) (by decide) (by decide))]
    exact ⟨(f6 k h1).1, fun i => by rw [F.T (n14 _ _)]; exact (f6 k h1).2 i⟩
  · intro s' h1
    rw [o 0 rfl] at h1
    obtain ⟨k1, k2, k3⟩ := sc s' h1
    refine ⟨?_, k2.c sv, fun z => (k3 z).f F (n4 _ 0 (by omega)) (n4 _ 6 (by omega)) sv (by rw [o 11 rfl]) (fun i _ => by rw [o 12 rfl])⟩
    refine k1.fr2 (F.mo (fun n z => ?_)) ?_ sv
    · rcases z with ⟨z1, z2, z3⟩ | z | z | z
      · exact ⟨by omega, fun w => by omega, fun w => by rw [w] at z1; exact absurd z1 (by simp), fun w => by have := w.2.2; omega⟩
      · exact ⟨by omega, fun w => by omega, fun w => by rw [w] at z; exact absurd z (by simp), fun w => by have := w.1; omega⟩
      · exact ⟨by omega, fun w => by omega, fun w => by rw [w] at z; exact absurd z (by simp), fun w => by have := w.1; omega⟩
      · exact ⟨by omega, fun w => by omega, fun w => by rw [w] at z; exact absurd z (by simp), fun w => by have := w.1; omega⟩
    · by_cases z : s' = s
      · subst z; exact Ws
      · have q4 : ∀ x : Nat, nRw s r (4, s', x) := fun x => ⟨by simp, fun w => absurd w.1 (by simp), fun w => by simp at w, fun w => z w.2.1⟩
        exact (k1.fr3 k2.b1.2 F (fun x _ => q4 x) (fun v _ => ⟨n0 _ _ _ (by decide) (by decide) (by decide) (by decide), n0 _ _ _ (by decide) (by decide) (by decide) (by decide), n0 _ _ _ (by decide) (by decide) (by decide) (by decide)⟩)).1
  · intro k h1
    rw [o 13 rfl] at h1
    refine (ff k h1).f F (n0 _ _ _ (by decide) (by decide) (by decide) (by decide)) (fun j hj => o j ?_) (by rw [o 0 rfl]; exact Int.le_refl _) (by rw [o 2 rfl]; exact Int.le_refl _)
    simp only [Bool.or_eq_true, beq_iff_eq] at hj
    rcases hj with (((h | h) | h) | h) | h <;> subst h <;> rfl
  · intro x h1
    rw [o 19 rfl] at h1
    by_cases z : x = r
    · subst z; exact hR
    · obtain ⟨r1, r2, r3, r4, r5, r6, r7⟩ := rr x h1
      obtain ⟨y20, y2⟩ := oq x (by omega)
      obtain ⟨y26, y21, y23, y22, y24, y25⟩ := y2 z
      have h9 : nRw s r (9, x, 0) := ⟨by simp, fun w => absurd w.1 (by simp), fun w => z (congrArg (fun n : Nm => n.2.1) w), fun w => absurd w.1 (by simp)⟩
      have h13 : ∀ j, nRw s r (13, x, j) := fun j => ⟨by simp, fun w => z w.2, fun w => by simp at w, fun w => absurd w.1 (by simp)⟩
      unfold RR
      rw [y20, y26, o 0 rfl, o 32 rfl, o 34 rfl, F.I h9]
      exact ⟨r1.f F h9, r2, (r3.zc (by rw [o 1 rfl]) (o 5 rfl) (o 7 rfl) y21 y22 y23 y24 y25).f F h13, r4, by omega, LL.cc (by rw [o 32 rfl]) (o 34 rfl) (o 35 rfl) r6, fun w => ⟨(r7 w).1, (r7 w).2.f F h13 (n14 _) sv.sc⟩⟩
  · intro m h1
    rw [o 28 rfl] at h1
    refine (mm m h1).f F (n0 _ _ _ (by decide) (by decide) (by decide) (by decide)) (fun j hj => o j ?_) (by rw [o 0 rfl]; exact Int.le_refl _) (by rw [o 32 rfl]; exact Int.le_refl _)
    simp only [Bool.or_eq_true, beq_iff_eq] at hj
    rcases hj with (h | h) | h <;> subst h <;> rfl
  · intro k h1
    rw [o 32 rfl] at h1
    obtain ⟨r1, r2, r3, r4, r5, r6, r7, r8, r9, r10, r11⟩ := kk k h1
    have h11 : nRw s r (11, k, 0) := n0 _ _ _ (by decide) (by decide) (by decide) (by decide)
    have y20 := (oq (Z 34 k).toNat (by omega)).1
    unfold KK
    rw [o 33 rfl, o 34 rfl, o 35 rfl, o 36 rfl, o 19 rfl, y20, F.I h11, F.I h11, F.I h11]
    refine ⟨r1.f F h11 (n14 _), r2, r3, r4, r5, r6, by omega, LL.cc (by rw [o 32 rfl]) (o 34 rfl) (o 35 rfl) r8, fun z => ⟨(r9 z).1, (r9 z).2.f F (n14 _) (n14 _) sv.sc⟩, r10.f F (n14 _) sv.sc (fun j hj => o j ?_), fun i hi => by rw [F.I (n14 _ _)]; exact r11 i hi⟩
    simp only [Bool.or_eq_true, beq_iff_eq] at hj
    rcases hj with ((((h | h) | h) | h) | h) | h <;> subst h <;> rfl
end I0

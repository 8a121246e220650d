/-! ===== the relation behind a new version ===== -/
section R10
variable {h g : AH} {Z Y : ZT} {s d n q : Nat} {A : Nat → Nat} {w a b c e fc n2 : Int} {M D N : Nat → Int} {L : Int64}
theorem SV.fr3 {P : Nm → Prop} (S : SV h Z s) (b1 : Z 1 s ≤ 23) (F : Fr P h g) (P4 : ∀ x, x ≤ 10 ∨ 100 ≤ x → P (4, s, x)) (P5 : ∀ v, v < 24 → P (5, 24 * s + v, 0) ∧ P (6, 24 * s + v, 0) ∧ P (7, 24 * s + v, 0)) : SV g Z s := by
  obtain ⟨W, ⟨a1, a2⟩, b, c, d, st⟩ := S
  refine ⟨?_, ⟨?_, ?_⟩, ?_, ?_, ?_, ?_⟩
  · unfold SchW at *
    rw [F.T (P4 0 (by omega)), F.T (P4 1 (by omega)), F.T (P4 2 (by omega)), F.T (P4 3 (by omega)), F.T (P4 4 (by omega)), F.T (P4 5 (by omega)), F.T (P4 6 (by omega)), F.T (P4 7 (by omega)), F.T (P4 8 (by omega)), F.T (P4 9 (by omega)), F.T (P4 10 (by omega))]
    simp only [F.R (P4 0 (by omega)), F.R (P4 3 (by omega))]
    refine ⟨W.1, W.2.1, fun v hv => ?_⟩
    rw [F.T (P4 (100 + v) (by omega))]
    exact W.2.2 v hv
  · rw [F.I (P4 0 (by omega)), a1]
  · rw [F.I (P4 0 (by omega)), a2]
  · unfold SFd at b ⊢
    intro f hf
    rw [F.I (P4 1 (by omega)), F.I (P4 2 (by omega))]
    exact b f hf
  · unfold SNm at c ⊢
    intro v n h1 h2
    rw [F.I (P4 (100 + v) (by omega))]
    exact c v n h1 h2
  · unfold SNd at d ⊢
    intro v f h1 h2
    rw [F.L (P4 4 (by omega))]
    exact d v f h1 h2
  · unfold SSt at st ⊢
    refine ⟨by rw [F.R (P4 5 (by omega))]; exact st.1, ?_⟩
    intro v h1 h2
    obtain ⟨s1, s2⟩ := st.2 v h1 h2
    obtain ⟨p5, p6, p7⟩ := P5 v (by omega)
    exact ⟨by rw [F.R (P4 5 (by omega))]; exact s1, s2.f F p5 p6 p7⟩
theorem SQ.zn {P : Nm → Prop} (F : Fr P h g) (h0 : P (4, s, 0)) (h6 : P (4, s, 6)) (e : zZn Y Z s) (b1 : 0 ≤ Z 1 s ∧ Z 1 s ≤ 23) (b2 : Z 2 s ≤ 46) (e11 : Y 11 s = Z 11 s) (e12 : ∀ i : Nat, i < 48 → Y 12 (48 * s + i) = Z 12 (48 * s + i)) (Q : SQ h Z s) : SQ g Y s := by
  obtain ⟨q1, q2, q3, q4, q5⟩ := Q
  obtain ⟨⟨e1, e2⟩, -, e5, -⟩ := e
  refine ⟨by rw [F.I h0, e11]; exact q1, by rw [e11]; exact q2, fun i hi => ?_, fun i j hi hj => ?_, fun i => by rw [F.I h6]; exact q5 i⟩
  · rw [e11] at hi
    have q := q3 i hi
    rw [F.I h6, e12 i (by omega), e1, e2, (e5 (Z 1 s).toNat (Z 12 (48 * s + i)).toNat (by omega) (by omega)).1]
    exact q
  · rw [e11] at hi hj
    rw [e12 i (by omega), e12 j (by omega)]
    exact q4 i j hi hj
theorem RowW.f {P : Nm → Prop} {r k : Nat} (F : Fr P h g) (hP : P (9, r, 0)) (W : RowW h r k) : RowW g r k := by
  unfold RowW at *
  rw [F.T hP, F.R hP, F.R hP]; exact W
theorem MovW.f {P : Nm → Prop} {k : Nat} (F : Fr P h g) (hP : P (11, k, 0)) (hP2 : ∀ j, P (14, k, j)) (W : MovW h k) : MovW g k := by
  unfold MovW at *
  rw [F.T hP, F.R hP]; exact ⟨W.1, W.2.1, W.2.2.f F hP2⟩
theorem FmW.f {P : Nm → Prop} (F : Fr P h g) (hP : ∀ j, P (3, j, 0)) (W : FmW h) : FmW g := by
  unfold FmW at *
  rw [F.T (hP _), F.T (hP _), F.T (hP _), F.T (hP _), F.T (hP _), F.T (hP _), F.R (hP _), F.R (hP _), F.R (hP _), F.R (hP _), F.R (hP _), F.R (hP _)]; exact W
theorem FmC.f {P : Nm → Prop} (F : Fr P h g) (hP : ∀ j, P (3, j, 0)) (W : FmC h) : FmC g := by
  unfold FmC at *
  simp only [F.I (hP _), F.R (hP _)]
  exact W
theorem LL.cc {r : Nat} {x l : Int} (e32 : Y 32 0 = Z 32 0) (e34 : Y 34 = Z 34) (e35 : Y 35 = Z 35) (k : LL Z r x l) : LL Y r x l := by
  unfold LL at *
  rw [e32, e34, e35]; exact k
/-- rows, movers, moves behind what leaves them alone -/
theorem RR.f {P : Nm → Prop} {r : Nat} (F : Fr P h g) (h9 : P (9, r, 0)) (h13 : ∀ j, P (13, r, j)) (h14 : ∀ k j, P (14, k, j)) (e : ∀ j, (j == 20 || j == 26 || j == 27 || j == 32 || j == 34 || j == 35) = true → Y j = Z j) (e0 : Z 0 0 ≤ Y 0 0) (est : stC Y Z (Z 20 r).toNat) (er : RW h Z (Z 20 r).toNat 13 r r → RW h Y (Z 20 r).toNat 13 r r) (R : RR A h Z r) : RR A g Y r := by
  obtain ⟨r1, r2, r3, r4, r5, r6, r7⟩ := R
  unfold RR
  rw [e 20 rfl, e 26 rfl, e 27 rfl, e 32 rfl, e 34 rfl, F.I h9]
  exact ⟨r1.f F h9, ⟨r2.1, by omega⟩, (er r3).f F h13, r4, r5, LL.cc (by rw [e 32 rfl]) (e 34 rfl) (e 35 rfl) r6, fun z => ⟨(r7 z).1, (r7 z).2.f F h13 (h14 _) est⟩⟩
theorem KK.f {P : Nm → Prop} {k : Nat} (F : Fr P h g) (h11 : P (11, k, 0)) (h14 : ∀ k j, P (14, k, j)) (e : ∀ j, (j == 20 || j == 27 || j == 32 || j == 33 || j == 34 || j == 35 || j == 36 || j == 37 || j == 38 || j == 39 || j == 40 || j == 41 || j == 42) = true → Y j = Z j) (e19 : Z 19 0 ≤ Y 19 0) (est : stC Y Z (Z 20 (Z 34 k).toNat).toNat) (R : KK A h Z k) : KK A g Y k := by
  obtain ⟨r1, r2, r3, r4, r5, r6, r7, r8, r9, r10, r11⟩ := R
  unfold KK
  rw [e 20 rfl, e 27 rfl, e 33 rfl, e 34 rfl, e 35 rfl, e 36 rfl, F.I h11, F.I h11, F.I h11]
  exact ⟨r1.f F h11 (h14 _), ⟨r2.1, by omega⟩, r3, r4, r5, r6, r7, LL.cc (by rw [e 32 rfl]) (e 34 rfl) (e 35 rfl) r8, fun z => ⟨(r9 z).1, (r9 z).2.f F (h14 _) (h14 _) est⟩, r10.f F (h14 _) est (fun j hj => e j (by
    simp only [Bool.or_eq_true, beq_iff_eq] at hj ⊢
    omega)), fun i hi => by rw [F.I (h14 _ _)]; exact r11 i hi⟩
theorem SIMq.ver (S : SIMq A q h Z n) (B0 : Z 0 0 ≤ 4) (hs : (s : Int) < Z 0 0) (hd : (d : Int) = Z 1 s + 1) (hd2 : d < 24) (hn : Z 2 s ≤ n2 ∧ n2 ≤ 46) (V : VS Z Y s d w a b c e fc n2 M D) (C : CS h g s d w a b c e fc n2 N L)
    (hsv : SV g Y s) (hzs : ZS Y s) (hq : ¬ s = q → ∀ i : Nat, (i : Int) < Z 11 s → ¬ M (Z 12 (48 * s + i)).toNat = -1) : SIMq A q g Y n := by
  obtain ⟨⟨t1, t2, t3, t4, t6, t5⟩, ⟨f1, f2, f3, f4, f5, f6⟩, sc, ff, rr, mm, kk⟩ := S
  have stc := V.sc hd hd2
  have V0 := V
  obtain ⟨⟨v1, v2⟩, v3, v5, vd, v7, vp, vz, vo⟩ := V
  obtain ⟨⟨c1, c11, c2⟩, cf, cv, -, -, cw, c6, F⟩ := C
  have o : ∀ j, inV j = false → Y j = Z j := vo
  have n0 : ∀ x y z, ¬ x = 4 → ¬ x = 5 → ¬ x = 6 → ¬ x = 7 → nVs s d (x, y, z) := fun x y z e4 e5 e6 e7 => ⟨fun q => e4 q.1, fun q => by rcases q.1 with q | q | q; exact e5 q; exact e6 q; exact e7 q⟩
  have n3 : ∀ j, nVs s d (3, j, 0) := fun j => n0 _ _ _ (by decide) (by decide) (by decide) (by decide)
  have n12 : ∀ j, nVs s d (12, 0, j) := fun j => n0 _ _ _ (by decide) (by decide) (by decide) (by decide)
  have n13 : ∀ r j, nVs s d (13, r, j) := fun r j => n0 _ _ _ (by decide) (by decide) (by decide) (by decide)
  have n14 : ∀ r j, nVs s d (14, r, j) := fun r j => n0 _ _ _ (by decide) (by decide) (by decide) (by decide)
  have est : ∀ s' : Nat, (s' : Int) < Z 0 0 → stC Y Z s' := fun s' h' => by
    by_cases z : s' = s
    · subst z; exact stc
    · exact (vz s' (by omega) z).sc (sc s' h').2.1.b1.2
  refine ⟨⟨t1.f F n3, t2.f F n3, ?_, t4.f F n12, ?_, ?_⟩, ⟨?_, ?_, ?_, ?_, ?_, ?_⟩, ?_, ?_, ?_, ?_, ?_⟩
  · rw [F.I (n3 _), F.I (n3 _), F.I (n3 _), F.I (n3 _), F.I (n3 _), o 0 rfl, o 13 rfl, o 19 rfl, o 28 rfl, o 32 rfl]; exact t3
  · intro s' h1
    rw [o 0 rfl] at h1
    by_cases z : s' = s
    · subst z; rw [c11]; exact t6 s' h1
    · rw [F.I (n := (4, s', 0)) ⟨fun y => z y.2, fun y => by rcases y.1 with y | y | y <;> simp at y⟩]; exact t6 s' h1
  · rw [o 27 rfl, o 32 rfl]; exact t5
  · intro s' i h1 h2
    rw [o 0 rfl] at h2
    rw [F.T ⟨fun z => by have := z.2; dsimp only at this; omega, fun z => by rcases z.1 with z | z | z <;> simp at z⟩]
    exact f1 s' i h1 h2
  · intro s' v h1 h3 h2
    rw [o 0 rfl] at h2
    have hne : ¬ 24 * s' + v = 24 * s + d := by
      intro z
      have e1 : s' = s := by omega
      subst e1
      rw [v1] at h2
      omega
    have h4 : Z 0 0 ≤ (s' : Int) ∨ Z 1 s' < (v : Int) := by
      by_cases z : s' = s
      · subst z; rw [v1] at h2; omega
      · rw [(vz s' h1 z).1.1] at h2; exact h2
    rw [F.T ⟨fun z => by simp at z, fun z => hne z.2.1⟩, F.T ⟨fun z => by simp at z, fun z => hne z.2.1⟩, F.T ⟨fun z => by simp at z, fun z => hne z.2.1⟩]
    exact f2 s' v h1 h3 h4
  · intro k h1
    rw [o 13 rfl] at h1
    rw [F.T (n0 _ _ _ (by decide) (by decide) (by decide) (by decide))]; exact f3 k h1
  · intro r h1
    rw [o 19 rfl] at h1
    rw [F.T (n0 _ _ _ (by decide) (by decide) (by decide) (by decide))]
    exact ⟨(f4 r h1).1, fun i => by rw [F.T (n13 _ _)]; exact (f4 r h1).2 i⟩
  · intro m h1
    rw [o 28 rfl] at h1
    rw [F.T (n0 _ _ _ (by decide) (by decide) (by decide) (by decide))]; exact f5 m h1
  · intro k h1
    rw [o 32 rfl] at h1
    rw [F.T (n0 _ _ _ (by decide) (by decide) (by decide) (by decide))]
    exact ⟨(f6 k h1).1, fun i => by rw [F.T (n14 _ _)]; exact (f6 k h1).2 i⟩
  · intro s' h1
    rw [o 0 rfl] at h1
    by_cases z : s' = s
    · subst z
      refine ⟨hsv, hzs, fun hz => ?_⟩
      obtain ⟨q1, q2, q3, q4, q5⟩ := (sc s' h1).2.2 hz
      refine ⟨by rw [c11, o 11 rfl]; exact q1, by rw [o 11 rfl]; exact q2, fun i hi => ?_, fun i j hi hj => ?_, fun i => by rw [c6]; exact q5 i⟩
      · rw [o 11 rfl] at hi
        have k := q3 i hi
        rw [c6, o 12 rfl, v2, v1]
        refine ⟨k.1, by omega, ?_⟩
        rw [Int.toNat_natCast, (vd _ (by omega)).1]
        exact hq hz i hi
      · rw [o 11 rfl] at hi hj
        rw [o 12 rfl]
        exact q4 i j hi hj
    · have zz := vz s' (by omega) z
      obtain ⟨k1, k2, k3⟩ := sc s' h1
      have P4 : ∀ x, nVs s d (4, s', x) := fun x => ⟨fun y => z y.2, fun y => by rcases y.1 with y | y | y <;> simp at y⟩
      have P5 : ∀ v, v < 24 → nVs s d (5, 24 * s' + v, 0) ∧ nVs s d (6, 24 * s' + v, 0) ∧ nVs s d (7, 24 * s' + v, 0) := fun v hv =>
        ⟨⟨fun y => by simp at y, fun y => by have := y.2.1; dsimp only at this; omega⟩, ⟨fun y => by simp at y, fun y => by have := y.2.1; dsimp only at this; omega⟩, ⟨fun y => by simp at y, fun y => by have := y.2.1; dsimp only at this; omega⟩⟩
      exact ⟨(k1.fr3 k2.b1.2 F (fun x _ => P4 x) P5).zn zz k2.b1.2 k2.b2.2, k2.zn zz, fun y => (k3 y).zn F (P4 _) (P4 _) zz k2.b1 k2.b2.2 (by rw [o 11 rfl]) (fun i _ => by rw [o 12 rfl])⟩
  · intro k h1
    rw [o 13 rfl] at h1
    have fk := ff k h1
    refine fk.f F (n0 _ _ _ (by decide) (by decide) (by decide) (by decide)) (fun j hj => o j ?_) (by rw [o 0 rfl]; exact Int.le_refl _) ?_
    · simp only [Bool.or_eq_true, beq_iff_eq] at hj
      rcases hj with (((hj | hj) | hj) | hj) | hj <;> subst hj <;> rfl
    · by_cases z : (Z 14 k).toNat = s
      · rw [z, v2]; exact hn.1
      · have := fk.2.1
        rw [(vz _ (by omega) z).1.2]; exact Int.le_refl _
  · intro r h1
    rw [o 19 rfl] at h1
    have rk := rr r h1
    have b := rk.2.1
    refine rk.f F (n0 _ _ _ (by decide) (by decide) (by decide) (by decide)) (n13 r) n14 (fun j hj => o j ?_) (by rw [o 0 rfl]; exact Int.le_refl _) (est _ (by omega)) (fun R => ?_)
    · simp only [Bool.or_eq_true, beq_iff_eq] at hj
      rcases hj with ((((hj | hj) | hj) | hj) | hj) | hj <;> subst hj <;> rfl
    · by_cases z : (Z 20 r).toNat = s
      · rw [z] at R ⊢
        exact R.ver hd hd2 V0
      · exact R.zn (vz _ (by omega) z) (sc _ (by omega)).2.1.b1.2 (by rw [o 21 rfl]) (fun _ _ => by rw [o 22 rfl]) (by rw [o 23 rfl]) (fun _ _ => by rw [o 24 rfl]) (fun _ _ => by rw [o 25 rfl])
  · intro m h1
    rw [o 28 rfl] at h1
    refine (mm m h1).f F (n0 _ _ _ (by decide) (by decide) (by decide) (by decide)) (fun j hj => o j ?_) (by rw [o 0 rfl]; exact Int.le_refl _) (by rw [o 32 rfl]; exact Int.le_refl _)
    simp only [Bool.or_eq_true, beq_iff_eq] at hj
    rcases hj with (hj | hj) | hj <;> subst hj <;> rfl
  · intro k h1
    rw [o 32 rfl] at h1
    have k0 := kk k h1
    have b := k0.2.1
    have b2 := (rr (Z 34 k).toNat (by omega)).2.1
    refine k0.f F (n0 _ _ _ (by decide) (by decide) (by decide) (by decide)) n14 (fun j hj => o j ?_) (by rw [o 19 rfl]; exact Int.le_refl _) (est _ (by omega))
    simp only [Bool.or_eq_true, beq_iff_eq] at hj
    rcases hj with (((((((((((hj | hj) | hj) | hj) | hj) | hj) | hj) | hj) | hj) | hj) | hj) | hj) | hj <;> subst hj <;> rfl
end R10

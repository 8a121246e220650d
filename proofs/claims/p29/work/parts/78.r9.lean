/-! ===== the relation, whole ===== -/
section R9
variable {h g : AH} {Z Y : ZT} {s n : Nat} {A : Nat → Nat}
/-- the waiting drops of s -/
def SQ (h : AH) (Z : ZT) (s : Nat) : Prop := hI h (4, s, 0) 1 = Z 11 s ∧ (0 ≤ Z 11 s ∧ Z 11 s ≤ 46)
  ∧ (∀ i : Nat, (i : Int) < Z 11 s → hI h (4, s, 6) i = Z 12 (48 * s + i) ∧ (0 ≤ Z 12 (48 * s + i) ∧ Z 12 (48 * s + i) < Z 2 s) ∧ ¬ Z 5 (48 * (24 * s + (Z 1 s).toNat) + (Z 12 (48 * s + i)).toNat) = -1)
  ∧ (∀ i j : Nat, (i : Int) < Z 11 s → (j : Int) < Z 11 s → Z 12 (48 * s + i) = Z 12 (48 * s + j) → i = j) ∧ ∀ i : Nat, 0 ≤ hI h (4, s, 6) i ∧ hI h (4, s, 6) i < 46
/-- the form g -/
def FF (h : AH) (Z : ZT) (g : Nat) : Prop := ForW h g (Z 14 g).toNat ∧ (0 ≤ Z 14 g ∧ Z 14 g < Z 0 0) ∧ (hI h (8, g, 0) 1 = Z 15 g ∧ hI h (8, g, 0) 2 = bz (Z 16 g = 0))
  ∧ (∀ f : Nat, f < 64 → (bt (hL h (8, g, 0) 3) f ↔ f < 48 ∧ ¬ Z 17 (48 * g + f) = 0) ∧ (bt (hL h (8, g, 0) 4) f ↔ f < 48 ∧ ¬ Z 17 (48 * g + f) = 0 ∧ ¬ Z 18 (48 * g + f) = 0))
  ∧ (∀ f : Nat, f < 48 → ¬ Z 17 (48 * g + f) = 0 → (f : Int) < Z 2 (Z 14 g).toNat) ∧ (¬ Z 16 g = 0 → ∀ f : Nat, f < 48 → Z 17 (48 * g + f) = 0)
/-- the state (a, b) is as that ahead of the move k, off its step p to the version A k -/
def JJ (A : Nat → Nat) (h : AH) (Z : ZT) (s a b k : Nat) : Prop := (1 ≤ A k ∧ (A k : Int) ≤ Z 1 s) ∧ hI h (a, b, 0) 0 + hI h (14, k, 0) 0 = 2 * (A k : Int) - 1
  ∧ (∀ f : Nat, f < 46 → (Z 7 (24 * s + A k) = 1 ∨ (¬ (f : Int) = Z 8 (2 * (24 * s + A k)) ∧ ¬ (f : Int) = Z 8 (2 * (24 * s + A k) + 1) ∧ ¬ (f : Int) = Z 9 (2 * (24 * s + A k)) ∧ ¬ (f : Int) = Z 9 (2 * (24 * s + A k) + 1))) → hI h (14, k, 1) f = hI h (a, b, 1) f)
  ∧ ∀ v : Nat, v < 24 → ¬ v = A k → (∀ j, j < 2 → hI h (14, k, 2) (2 * v + j) = hI h (a, b, 2) (2 * v + j)) ∧ ∀ j, j < 4 → hI h (14, k, 3) (4 * v + j) = hI h (a, b, 3) (4 * v + j)
/-- what the model has noted of the move k -/
def NN (A : Nat → Nat) (h : AH) (Z : ZT) (s k : Nat) : Prop := (1 ≤ A k ∧ (A k : Int) ≤ Z 1 s) ∧ (hI h (14, k, 0) 0 = Z 37 k ∧ (Z 37 k = (A k : Int) ∨ Z 37 k = (A k : Int) - 1) ∧ hI h (14, k, 0) 1 = Z 38 k)
  ∧ ((0 ≤ Z 39 k ∧ Z 39 k ≤ 2) ∧ hI h (14, k, 2) (2 * A k) = bz (Z 39 k = 1) ∧ hI h (14, k, 2) (2 * A k + 1) = bz (Z 39 k = 2) ∧ (Z 39 k = 1 → hI h (14, k, 3) (4 * A k) = Z 40 (2 * k) ∧ hI h (14, k, 3) (4 * A k + 1) = Z 40 (2 * k + 1)) ∧ (Z 39 k = 2 → hI h (14, k, 3) (4 * A k + 2) = Z 40 (2 * k) ∧ hI h (14, k, 3) (4 * A k + 3) = Z 40 (2 * k + 1)) ∧ (Z 7 (24 * s + A k) = 1 → Z 39 k = 0))
  ∧ (¬ Z 7 (24 * s + A k) = 1 → Z 37 k = (A k : Int) - 1 → ∀ j, j < 2 → ¬ Z 8 (2 * (24 * s + A k) + j) = -1 → hI h (14, k, 1) (Z 8 (2 * (24 * s + A k) + j)).toNat = Z 41 (2 * k + j))
  ∧ (¬ Z 7 (24 * s + A k) = 1 → Z 37 k = (A k : Int) → ∀ j, j < 2 → ¬ Z 9 (2 * (24 * s + A k) + j) = -1 → hI h (14, k, 1) (Z 9 (2 * (24 * s + A k) + j)).toNat = Z 42 (2 * k + j))
/-- the last move l of the row r, by the acts -/
def LL (Z : ZT) (r : Nat) (act l : Int) : Prop := ∀ k : Nat, (k : Int) < Z 32 0 → Z 34 k = (r : Int) → (act = Z 35 k ↔ l = (k : Int))
/-- the row r -/
def RR (A : Nat → Nat) (h : AH) (Z : ZT) (r : Nat) : Prop := RowW h r (Z 20 r).toNat ∧ (0 ≤ Z 20 r ∧ Z 20 r < Z 0 0) ∧ RW h Z (Z 20 r).toNat 13 r r
  ∧ (-1 ≤ hI h (9, r, 0) 2 ∧ hI h (9, r, 0) 2 < Z 32 0) ∧ Z 26 r ≤ Z 27 0 ∧ LL Z r (Z 26 r) (hI h (9, r, 0) 2)
  ∧ (0 ≤ hI h (9, r, 0) 2 → Z 34 (hI h (9, r, 0) 2).toNat = (r : Int) ∧ JJ A h Z (Z 20 r).toNat 13 r (hI h (9, r, 0) 2).toNat)
/-- the mover m -/
def MM (h : AH) (Z : ZT) (m : Nat) : Prop := MvrW h m (Z 29 m).toNat ∧ (0 ≤ Z 29 m ∧ Z 29 m < Z 0 0) ∧ hI h (10, m, 0) 1 = Z 30 m ∧ hI h (10, m, 0) 2 = Z 31 m ∧ (-1 ≤ Z 31 m ∧ Z 31 m < Z 32 0)
/-- the move k -/
def KK (A : Nat → Nat) (h : AH) (Z : ZT) (k : Nat) : Prop := MovW h k ∧ (0 ≤ Z 34 k ∧ Z 34 k < Z 19 0) ∧ hI h (11, k, 0) 0 = Z 34 k ∧ hI h (11, k, 0) 1 = Z 33 k ∧ (-1 ≤ Z 33 k ∧ Z 33 k < (k : Int))
  ∧ (-1 ≤ hI h (11, k, 0) 2 ∧ hI h (11, k, 0) 2 < (k : Int)) ∧ (Z 35 k ≤ Z 27 0 ∧ Z 36 k ≤ Z 27 0) ∧ LL Z (Z 34 k).toNat (Z 36 k) (hI h (11, k, 0) 2)
  ∧ (0 ≤ hI h (11, k, 0) 2 → Z 34 (hI h (11, k, 0) 2).toNat = Z 34 k ∧ JJ A h Z (Z 20 (Z 34 k).toNat).toNat 14 k (hI h (11, k, 0) 2).toNat)
  ∧ NN A h Z (Z 20 (Z 34 k).toNat).toNat k ∧ isB h (14, k, 2) 48
/-- the object -/
def TP (h : AH) (Z : ZT) (n : Nat) : Prop := FmW h ∧ FmC h ∧ (hI h (3, 0, 0) 6 = Z 0 0 ∧ hI h (3, 0, 0) 7 = Z 13 0 ∧ hI h (3, 0, 0) 8 = Z 19 0 ∧ hI h (3, 0, 0) 9 = Z 28 0 ∧ hI h (3, 0, 0) 10 = Z 32 0)
  ∧ StaW h 12 0 ∧ (∀ s : Nat, (s : Int) < Z 0 0 → 0 ≤ hI h (4, s, 0) 1 ∧ hI h (4, s, 0) 1 ≤ 46) ∧ Z 27 0 ≤ (n : Int) ∧ 0 ≤ Z 27 0 ∧ Z 32 0 ≤ (n : Int)
/-- names not yet taken -/
def NF (h : AH) (Z : ZT) : Prop := (∀ s i : Nat, s < 4 → Z 0 0 ≤ (s : Int) → hT h (4, s, i) = none) ∧ (∀ s v : Nat, s < 4 → v < 24 → (Z 0 0 ≤ (s : Int) ∨ Z 1 s < (v : Int)) → hT h (5, 24 * s + v, 0) = none ∧ hT h (6, 24 * s + v, 0) = none ∧ hT h (7, 24 * s + v, 0) = none)
  ∧ (∀ g : Nat, Z 13 0 ≤ (g : Int) → hT h (8, g, 0) = none) ∧ (∀ r : Nat, Z 19 0 ≤ (r : Int) → hT h (9, r, 0) = none ∧ ∀ i, hT h (13, r, i) = none)
  ∧ (∀ m : Nat, Z 28 0 ≤ (m : Int) → hT h (10, m, 0) = none) ∧ ∀ k : Nat, Z 32 0 ≤ (k : Int) → hT h (11, k, 0) = none ∧ ∀ i, hT h (14, k, i) = none
/-- the model alone -/
def ZB (Z : ZT) : Prop := BI Z ∧ BR Z ∧ BT Z ∧ BM Z ∧ BL Z ∧ BN Z ∧ BK Z ∧ (∀ s a : Int, 0 ≤ s → s < 4 → 1 ≤ a → a ≤ Z 1 s.toNat → stF Z (24 * s + a))
def SC (h : AH) (Z : ZT) (s : Nat) : Prop := SV h Z s ∧ ZS Z s ∧ SQ h Z s
/-- class and model stand alike, after at most n calls, but for the waiting drops of q -/
def SIMq (A : Nat → Nat) (q : Nat) (h : AH) (Z : ZT) (n : Nat) : Prop := TP h Z n ∧ NF h Z ∧ (∀ s : Nat, (s : Int) < Z 0 0 → SV h Z s ∧ ZS Z s ∧ (¬ s = q → SQ h Z s)) ∧ (∀ g : Nat, (g : Int) < Z 13 0 → FF h Z g)
  ∧ (∀ r : Nat, (r : Int) < Z 19 0 → RR A h Z r) ∧ (∀ m : Nat, (m : Int) < Z 28 0 → MM h Z m) ∧ (∀ k : Nat, (k : Int) < Z 32 0 → KK A h Z k)
def SIM (h : AH) (Z : ZT) (n : Nat) : Prop := ∃ A : Nat → Nat, SIMq A 9 h Z n
theorem SC.sb (S : SC h Z s) : SB h s := S.1.sb S.2.1 (by rw [S.2.2.1]; exact S.2.2.2.1)
/-! what stays -/
theorem SQ.f {P : Nm → Prop} (F : Fr P h g) (h0 : P (4, s, 0)) (h6 : P (4, s, 6)) (e : zSv Y Z) (e11 : Y 11 s = Z 11 s) (e12 : ∀ i : Nat, i < 48 → Y 12 (48 * s + i) = Z 12 (48 * s + i)) (Q : SQ h Z s) : SQ g Y s := by
  obtain ⟨q1, q2, q3, q4, q5⟩ := Q
  refine ⟨by rw [F.I h0, e11]; exact q1, by rw [e11]; exact q2, fun i hi => ?_, fun i j hi hj => ?_, fun i => by rw [F.I h6]; exact q5 i⟩
  · rw [e11] at hi
    rw [F.I h6, e12 i (by omega), e 1 rfl, e 2 rfl, e 5 rfl]
    exact q3 i hi
  · rw [e11] at hi hj
    rw [e12 i (by omega), e12 j (by omega)]
    exact q4 i j hi hj
theorem SC.f {P : Nm → Prop} (F : Fr P h g) (hP : ∀ n, nSv s n → P n) (hP2 : ∀ x, x ≤ 10 → P (4, s, x)) (e : zSv Y Z) (e11 : Y 11 s = Z 11 s) (e12 : ∀ i : Nat, i < 48 → Y 12 (48 * s + i) = Z 12 (48 * s + i)) (S : SC h Z s) : SC g Y s := by
  have W : SchW g s := by
    have W := S.1.1
    unfold SchW at *
    rw [F.T (hP2 0 (by omega)), F.T (hP2 1 (by omega)), F.T (hP2 2 (by omega)), F.T (hP2 3 (by omega)), F.T (hP2 4 (by omega)), F.T (hP2 5 (by omega)), F.T (hP2 6 (by omega)), F.T (hP2 7 (by omega)), F.T (hP2 8 (by omega)), F.T (hP2 9 (by omega)), F.T (hP2 10 (by omega))]
    simp only [F.R (hP2 0 (by omega)), F.R (hP2 3 (by omega))]
    refine ⟨W.1, W.2.1, fun v hv => ?_⟩
    rw [F.T (hP _ (Or.inl ⟨rfl, rfl, Or.inr (Nat.le_add_right _ _)⟩))]
    exact W.2.2 v hv
  exact ⟨S.1.fr2 (F.mo hP) W e, S.2.1.c e, S.2.2.f F (hP2 0 (by omega)) (hP2 6 (by omega)) e e11 e12⟩
theorem FF.f {P : Nm → Prop} {k : Nat} (F : Fr P h g) (hP : P (8, k, 0)) (e : ∀ j, (j == 14 || j == 15 || j == 16 || j == 17 || j == 18) = true → Y j = Z j) (e0 : Z 0 0 ≤ Y 0 0) (e2 : Z 2 (Z 14 k).toNat ≤ Y 2 (Z 14 k).toNat) (S : FF h Z k) : FF g Y k := by
  unfold FF ForW at *
  rw [F.T hP, F.R hP, F.I hP, F.I hP, F.L hP, F.L hP, e 14 rfl, e 15 rfl, e 16 rfl, e 17 rfl, e 18 rfl]
  obtain ⟨s1, s2, s3, s4, s5, s6⟩ := S
  exact ⟨s1, ⟨s2.1, by omega⟩, s3, s4, fun f h1 h2 => by have := s5 f h1 h2; omega, s6⟩
theorem MM.f {P : Nm → Prop} {m : Nat} (F : Fr P h g) (hP : P (10, m, 0)) (e : ∀ j, (j == 29 || j == 30 || j == 31) = true → Y j = Z j) (e0 : Z 0 0 ≤ Y 0 0) (e32 : Z 32 0 ≤ Y 32 0) (S : MM h Z m) : MM g Y m := by
  unfold MM MvrW at *
  rw [F.T hP, F.R hP, F.I hP, F.I hP, e 29 rfl, e 30 rfl, e 31 rfl]
  obtain ⟨s1, s2, s3, s4, s5⟩ := S
  exact ⟨s1, ⟨s2.1, by omega⟩, s3, s4, ⟨s5.1, by omega⟩⟩
/-- steps that stand stay -/
def stC (Y Z : ZT) (s : Nat) : Prop := Z 1 s ≤ Y 1 s ∧ ∀ v : Nat, 1 ≤ v → (v : Int) ≤ Z 1 s → Y 7 (24 * s + v) = Z 7 (24 * s + v) ∧ ∀ j, j < 2 → Y 8 (2 * (24 * s + v) + j) = Z 8 (2 * (24 * s + v) + j) ∧ Y 9 (2 * (24 * s + v) + j) = Z 9 (2 * (24 * s + v) + j)
theorem zSv.sc (e : zSv Y Z) : stC Y Z s := by
  unfold stC
  rw [e 1 rfl, e 7 rfl, e 8 rfl, e 9 rfl]
  exact ⟨Int.le_refl _, fun _ _ _ => ⟨rfl, fun _ _ => ⟨rfl, rfl⟩⟩⟩
theorem zZn.sc (e : zZn Y Z s) (b : Z 1 s ≤ 23) : stC Y Z s := ⟨by rw [e.1.1]; exact Int.le_refl _, fun v _ h2 => ⟨(e.2.2.2 v (by omega)).1.1, (e.2.2.2 v (by omega)).2⟩⟩
theorem VS.sc {d : Nat} {w a b c e fc n2 : Int} {M D : Nat → Int} (hd : (d : Int) = Z 1 s + 1) (hd2 : d < 24) (V : VS Z Y s d w a b c e fc n2 M D) : stC Y Z s := by
  obtain ⟨⟨v1, -⟩, -, -, -, v7, -⟩ := V
  refine ⟨by rw [v1]; omega, fun v h1 h2 => ⟨(v7 v (by omega) (by omega)).1.1, (v7 v (by omega) (by omega)).2⟩⟩
theorem JJ.f {P : Nm → Prop} {a b k : Nat} (F : Fr P h g) (hP : ∀ j, P (a, b, j)) (hP2 : ∀ j, P (14, k, j)) (e : stC Y Z s) (J : JJ A h Z s a b k) : JJ A g Y s a b k := by
  obtain ⟨⟨j1, j2⟩, j3, j4, j5⟩ := J
  obtain ⟨e1, e2⟩ := e
  obtain ⟨e7, e8⟩ := e2 (A k) j1 j2
  have k0 := e8 0 (by omega)
  have k1 := e8 1 (by omega)
  rw [Nat.add_zero] at k0
  refine ⟨⟨j1, by omega⟩, by rw [F.I (hP _), F.I (hP2 _)]; exact j3, ?_, ?_⟩
  · intro f hf
    rw [e7, k0.1, k0.2, k1.1, k1.2, F.I (hP _), F.I (hP2 _)]
    exact j4 f hf
  · intro v hv ho
    refine ⟨fun j hj => ?_, fun j hj => ?_⟩
    · rw [F.I (hP _), F.I (hP2 _)]; exact (j5 v hv ho).1 j hj
    · rw [F.I (hP _), F.I (hP2 _)]; exact (j5 v hv ho).2 j hj
theorem NN.f {P : Nm → Prop} {k : Nat} (F : Fr P h g) (hP2 : ∀ j, P (14, k, j)) (e : stC Y Z s) (eb : ∀ j, (j == 37 || j == 38 || j == 39 || j == 40 || j == 41 || j == 42) = true → Y j = Z j) (N : NN A h Z s k) : NN A g Y s k := by
  obtain ⟨⟨j1, j2⟩, n2, n3, n4, n5⟩ := N
  obtain ⟨e1, e2⟩ := e
  obtain ⟨e7, e8⟩ := e2 (A k) j1 j2
  refine ⟨⟨j1, by omega⟩, ?_, ?_, ?_, ?_⟩
  · rw [F.I (hP2 _), F.I (hP2 _), eb 37 rfl, eb 38 rfl]; exact n2
  · rw [F.I (hP2 _), F.I (hP2 _), F.I (hP2 _), F.I (hP2 _), F.I (hP2 _), F.I (hP2 _), eb 39 rfl, eb 40 rfl, e7]; exact n3
  · intro c1 c2 j hj
    rw [e7] at c1
    rw [eb 37 rfl] at c2
    rw [(e8 j hj).1, F.I (hP2 _), eb 41 rfl]
    exact n4 c1 c2 j hj
  · intro c1 c2 j hj
    rw [e7] at c1
    rw [eb 37 rfl] at c2
    rw [(e8 j hj).2, F.I (hP2 _), eb 42 rfl]
    exact n5 c1 c2 j hj
end R9

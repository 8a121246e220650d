/-! ===== the relation: a move noted ===== -/
section K2
variable {Q : AH → AO → Prop} {h g H G : AH} {Z Y X : ZT} {c q s a b r x m v k : Nat} {A A2 : Nat → Nat}
theorem JJ.ca {h : AH} {Z : ZT} (e : A2 k = A k) (J : JJ A h Z s a b k) : JJ A2 h Z s a b k := by
  unfold JJ at *; rw [e]; exact J
theorem NN.ca {h : AH} {Z : ZT} (e : A2 k = A k) (J : NN A h Z s k) : NN A2 h Z s k := by
  unfold NN at *; rw [e]; exact J
/-- the state (a', b') is a copy of (a, b) -/
def cpS (h g : AH) (a b a' b' : Nat) : Prop := (hI g (a', b', 0) 0 = hI h (a, b, 0) 0 ∧ hI g (a', b', 0) 1 = hI h (a, b, 0) 1) ∧ (∀ i, i < 46 → hI g (a', b', 1) i = hI h (a, b, 1) i) ∧ (∀ i, i < 48 → hI g (a', b', 2) i = hI h (a, b, 2) i) ∧ (∀ i, i < 96 → hI g (a', b', 3) i = hI h (a, b, 3) i)
theorem JJ.cp {a' b' : Nat} (C : cpS h g a b a' b') (e14 : ∀ j i, hI g (14, k, j) i = hI h (14, k, j) i) (eA : A k ≤ 23) (J : JJ A h Z s a b k) : JJ A g Z s a' b' k := by
  obtain ⟨j1, j2, j3, j4⟩ := J
  obtain ⟨⟨c0, -⟩, c1, c2, c3⟩ := C
  refine ⟨j1, by rw [c0, e14]; exact j2, fun f hf z => by rw [c1 f hf, e14]; exact j3 f hf z, fun w hw z => ⟨fun j hj => by rw [c2 _ (by omega), e14]; exact (j4 w hw z).1 j hj, fun j hj => by rw [c3 _ (by omega), e14]; exact (j4 w hw z).2 j hj⟩⟩
theorem NN.f2 {P : Nm → Prop} {k : Nat} (F : Fr P h g) (hP2 : ∀ j, P (14, k, j)) (e : stC Y Z s) (eb : ∀ j, (37 ≤ j ∧ j ≤ 39) → Y j k = Z j k) (ec : ∀ j, (40 ≤ j ∧ j ≤ 42) → ∀ i, i < 2 → Y j (2 * k + i) = Z j (2 * k + i)) (N : NN A h Z s k) : NN A g Y s k := by
  obtain ⟨⟨j1, j2⟩, n2, n3, n4, n5⟩ := N
  obtain ⟨e1, e2⟩ := e
  obtain ⟨e7, e8⟩ := e2 (A k) j1 j2
  have c0 := ec 40 (by omega) 0 (by omega)
  rw [Nat.add_zero] at c0
  refine ⟨⟨j1, by omega⟩, ?_, ?_, ?_, ?_⟩
  · rw [F.I (hP2 _), F.I (hP2 _), eb 37 (by omega), eb 38 (by omega)]; exact n2
  · rw [F.I (hP2 _), F.I (hP2 _), F.I (hP2 _), F.I (hP2 _), F.I (hP2 _), F.I (hP2 _), eb 39 (by omega), c0, ec 40 (by omega) 1 (by omega), e7]; exact n3
  · intro c1 c2 j hj
    rw [e7] at c1
    rw [eb 37 (by omega)] at c2
    rw [(e8 j hj).1, F.I (hP2 _), ec 41 (by omega) j hj]
    exact n4 c1 c2 j hj
  · intro c1 c2 j hj
    rw [e7] at c1
    rw [eb 37 (by omega)] at c2
    rw [(e8 j hj).2, F.I (hP2 _), ec 42 (by omega) j hj]
    exact n5 c1 c2 j hj
def ntj (j : Nat) : Bool := j == 27 || j == 32 || j == 33 || j == 34 || j == 35 || j == 36 || j == 37 || j == 38 || j == 39 || j == 40 || j == 41 || j == 42 || j == 48
/-- the move k, to row r over the step to v, for the mover m, noted in the model -/
def YN (Z Y : ZT) (k r v m : Nat) : Prop := (∀ j, ntj j = false → Y j = Z j) ∧ Y 27 0 = Z 27 0 + 1 ∧ Y 32 0 = (k : Int) + 1 ∧ (∀ j x, (33 ≤ j ∧ j ≤ 39) → ¬ x = k → Y j x = Z j x) ∧ (∀ j x i, (40 ≤ j ∧ j ≤ 42) → ¬ x = k → i < 2 → Y j (2 * x + i) = Z j (2 * x + i))
  ∧ (Y 33 k = Z 31 m ∧ Y 34 k = (r : Int) ∧ Y 35 k = Z 27 0 + 1 ∧ Y 36 k = Z 26 r ∧ Y 37 k = Z 21 r ∧ Y 38 k = Z 23 r ∧ Y 39 k = Z 24 (24 * r + v)) ∧ (∀ i, i < 2 → Y 40 (2 * k + i) = Z 25 (2 * (24 * r + v) + i))
  ∧ (∀ i, i < 2 → ¬ Z 7 (24 * (Z 20 r).toNat + v) = 1 → (¬ Z 8 (2 * (24 * (Z 20 r).toNat + v) + i) = -1 → Y 41 (2 * k + i) = Z 22 (48 * r + (Z 8 (2 * (24 * (Z 20 r).toNat + v) + i)).toNat)) ∧ (¬ Z 9 (2 * (24 * (Z 20 r).toNat + v) + i) = -1 → Y 42 (2 * k + i) = Z 22 (48 * r + (Z 9 (2 * (24 * (Z 20 r).toNat + v) + i)).toNat)))
set_option maxHeartbeats 1000000 in
theorem X_mvn (S : SIMq A 9 h Z c) (hc : c < 512) (N : YN Z Y k r v m) (em : Z 32 0 = (k : Int)) (hr : (r : Int) < Z 19 0) (hm : (m : Int) < Z 28 0) (hv : 1 ≤ v ∧ (v : Int) ≤ Z 1 (Z 20 r).toNat) (hV : Z 21 r = (v : Int) ∨ Z 21 r = (v : Int) - 1)
    (F : Fr (fun n => ¬ (n.1 = 11 ∧ n.2.1 = k) ∧ ¬ (n.1 = 14 ∧ n.2.1 = k)) h g) (W : MovW g k) (i0 : hI g (11, k, 0) 0 = (r : Int)) (i1 : hI g (11, k, 0) 1 = Z 31 m) (i2 : hI g (11, k, 0) 2 = hI h (9, r, 0) 2) (CS : cpS h g 13 r 14 k) :
    SIMq (fun j => if j = k then v else A j) 9 (sI (sR g (3, 5, 0) k (some (11, k, 0))) (3, 0, 0) 10 ((k : Int) + 1)) Y (c + 1) := by
  have zz := S.zz
  have z28 := S.c28
  have z19 := S.c19
  have cc := S.1.2.2.2.2
  have e5 : ∀ x : Nat, (x : Int) < Z 28 0 → MM h Z x := S.2.2.2.2.2.1
  have mmm := (e5 m hm).2.2.2.2
  have sc2 := fun (s' : Nat) (h' : (s' : Int) < Z 0 0) => S.sc h'
  obtain ⟨⟨t1, t2, t3, t4, t6, t5, t50, t52⟩, ⟨f1, f2, f3, f4, f5, f6⟩, sc, ff, rr, mm, kk⟩ := S
  obtain ⟨ya, y27, y32, yk, yj, ⟨y33, y34, y35, y36, y37, y38, y39⟩, y40, y41⟩ := N
  have Rr := rr r hr
  obtain ⟨RWr, r2, R3, r4, r5, r6, r7⟩ := Rr
  obtain ⟨SVr, Kr, -⟩ := sc2 (Z 20 r).toNat (by omega)
  have b1 := Kr.b1
  have b2 := Kr.b2
  have rO : ∀ x i, ¬ x = 5 → hR (sI (sR g (3, 5, 0) k (some (11, k, 0))) (3, 0, 0) 10 ((k : Int) + 1)) (3, x, 0) i = hR h (3, x, 0) i := fun x i hx => by
    rw [← F.R (n := (3, x, 0)) ⟨by simp, by simp⟩]
    simp [hR_sI, hR_sR, hx]
  have rk : ∀ i, hR (sI (sR g (3, 5, 0) k (some (11, k, 0))) (3, 0, 0) 10 ((k : Int) + 1)) (3, 5, 0) i = if i = k then some (11, k, 0) else hR h (3, 5, 0) i := fun i => by
    rw [← F.R (n := (3, 5, 0)) ⟨by simp, by simp⟩]
    simp [hR_sI, hR_sR]
  have j0 : ∀ j, ¬ j = 10 → hI (sI (sR g (3, 5, 0) k (some (11, k, 0))) (3, 0, 0) 10 ((k : Int) + 1)) (3, 0, 0) j = hI h (3, 0, 0) j := fun j hj => by
    rw [hI_m hj rfl, hI_sR, F.I ⟨by simp, by simp⟩]
  have j9 : hI (sI (sR g (3, 5, 0) k (some (11, k, 0))) (3, 0, 0) 10 ((k : Int) + 1)) (3, 0, 0) 10 = (k : Int) + 1 := hI_e rfl rfl
  have tg : hT (sI (sR g (3, 5, 0) k (some (11, k, 0))) (3, 0, 0) 10 ((k : Int) + 1)) = hT g := rfl
  have Fg : Fr (fun n => ¬ n.1 = 3) g (sI (sR g (3, 5, 0) k (some (11, k, 0))) (3, 0, 0) 10 ((k : Int) + 1)) := (Fr.rf.wR (fun z => z rfl)).wI (fun z => z rfl)
  have FG : Fr (fun n => (¬ (n.1 = 11 ∧ n.2.1 = k) ∧ ¬ (n.1 = 14 ∧ n.2.1 = k)) ∧ ¬ n.1 = 3) h (sI (sR g (3, 5, 0) k (some (11, k, 0))) (3, 0, 0) 10 ((k : Int) + 1)) := (F.mo (fun n z => z.1)).tr (Fg.mo (fun n z => z.2))
  generalize sI (sR g (3, 5, 0) k (some (11, k, 0))) (3, 0, 0) 10 ((k : Int) + 1) = G at *
  have sv : zSv Y Z := fun j hj => ya j (by
    simp only [Bool.or_eq_true, beq_iff_eq] at hj
    rcases hj with ((((((((h | h) | h) | h) | h) | h) | h) | h) | h) | h <;> subst h <;> rfl)
  have st : ∀ s', stC Y Z s' := fun s' => sv.sc
  have eA : ∀ k', ¬ k' = k → (fun j => if j = k then v else A j) k' = A k' := fun k' hk => if_neg hk
  have llx : ∀ (x : Nat) (act l : Int), act ≤ Z 27 0 → l < (k : Int) → LL Z x act l → LL Y x act l := by
    intro x act l ha hl L k' hk hk2
    rw [y32] at hk
    by_cases z : k' = k
    · rw [z, y35]; constructor <;> intro <;> omega
    · rw [yk 34 k' (by omega) z] at hk2
      rw [yk 35 k' (by omega) z]
      exact L k' (by omega) hk2
  have jjx : ∀ (s' a b x : Nat), x < k → (∀ j, ¬ ((a, b, j) : Nm).1 = 3 ∧ ¬ (((a, b, j) : Nm).1 = 11 ∧ ((a, b, j) : Nm).2.1 = k) ∧ ¬ (((a, b, j) : Nm).1 = 14 ∧ ((a, b, j) : Nm).2.1 = k)) → JJ A h Z s' a b x → JJ (fun j => if j = k then v else A j) G Y s' a b x := by
    intro s' a b x hx hn J
    exact JJ.ca (eA x (by omega)) (J.f FG (fun j => ⟨⟨(hn j).2.1, (hn j).2.2⟩, (hn j).1⟩) (fun j => ⟨⟨by simp, by simp; omega⟩, by simp⟩) (st s'))
  have gk : KK (fun j => if j = k then v else A j) G Y k := by
    have p0 : ∀ i, hI G (11, k, 0) i = hI g (11, k, 0) i := fun i => Fg.I (by simp) i
    have p14 : ∀ j i, hI G (14, k, j) i = hI g (14, k, j) i := fun j i => Fg.I (by simp) i
    have CS2 : cpS h G 13 r 14 k := by
      unfold cpS at *
      simp only [p14]; exact CS
    obtain ⟨⟨c0, c1⟩, c2, c3, c4⟩ := CS2
    unfold KK
    rw [y33, y34, y35, y36, y27, Int.toNat_natCast, p0, p0, p0, i0, i1, i2, ya 20 rfl, ya 19 rfl]
    refine ⟨⟨?_, ?_, W.2.2.f Fg (fun j => by simp)⟩, ⟨by omega, hr⟩, rfl, rfl, by omega, by omega, by omega, llx _ _ _ r5 (by omega) r6, fun z => ?_, ?_, ?_⟩
    · rw [tg]; exact W.1
    · rw [Fg.R (by simp)]; exact W.2.1
    · obtain ⟨l1, J⟩ := r7 z
      have hlk : (hI h (9, r, 0) 2).toNat < k := by omega
      rw [yk 34 _ (by omega) (by omega)]
      refine ⟨l1, ?_⟩
      have hA := J.1
      have J2 : JJ A G Z (Z 20 r).toNat 14 k (hI h (9, r, 0) 2).toNat := JJ.cp ⟨⟨c0, c1⟩, c2, c3, c4⟩ (fun j i => FG.I ⟨⟨by simp, by simp; omega⟩, by simp⟩ i) (by omega) J
      exact JJ.ca (eA _ (by omega)) (J2.f (P := fun _ => True) Fr.rf (fun _ => trivial) (fun _ => trivial) (st _))
    · have zp := Kr.zp hv.1 hv.2
      have rb := R3.2.2.2.2 v (by omega)
      have rv := R3.2.2.2.1
      have c20 := c3 (2 * v) (by omega)
      have c21 := c3 (2 * v + 1) (by omega)
      have c40 := c4 (4 * v) (by omega)
      have c41 := c4 (4 * v + 1) (by omega)
      have c42 := c4 (4 * v + 2) (by omega)
      have c43 := c4 (4 * v + 3) (by omega)
      have y400 := y40 0 (by omega)
      rw [Nat.add_zero, Nat.add_zero] at y400
      unfold NN
      simp only [if_true]
      rw [ya 7 rfl, ya 8 rfl, ya 9 rfl, ya 1 rfl, y37, y38, y39, y400, y40 1 (by omega), c0, c1, c20, c21, c40, c41, c42, c43]
      obtain ⟨b1', b2', b3', b4', b5', b6'⟩ := rb
      refine ⟨hv, ⟨R3.1.1, hV, R3.2.2.1⟩, ⟨b1', b2', b3', b4', b5', fun z => b6' (Or.inr (Or.inr z))⟩, fun z1 z2 j hj z3 => ?_, fun z1 z2 j hj z3 => ?_⟩
      · rw [(y41 j hj z1).1 z3]
        obtain ⟨⟨q1, q2, -, -⟩, -, -, l0, l1, -⟩ := zp
        have hb : 0 ≤ Z 8 (2 * (24 * (Z 20 r).toNat + v) + j) ∧ Z 8 (2 * (24 * (Z 20 r).toNat + v) + j) < Z 2 (Z 20 r).toNat := by
          rcases (show j = 0 ∨ j = 1 by omega) with e | e <;> subst e
          · rw [Nat.add_zero] at *; omega
          · omega
        rw [c2 _ (by omega)]
        refine rv _ (by omega) ?_
        rw [show (Z 21 r).toNat = v - 1 by omega, show 24 * (Z 20 r).toNat + (v - 1) = 24 * (Z 20 r).toNat + v - 1 by omega]
        rcases (show j = 0 ∨ j = 1 by omega) with e | e <;> subst e
        · rw [Nat.add_zero] at *; exact l0 z3
        · exact l1 z3
      · rw [(y41 j hj z1).2 z3]
        obtain ⟨⟨-, -, q1, q2⟩, -, lv, -⟩ := zp
        have hb : 0 ≤ Z 9 (2 * (24 * (Z 20 r).toNat + v) + j) ∧ Z 9 (2 * (24 * (Z 20 r).toNat + v) + j) < Z 2 (Z 20 r).toNat := by
          rcases (show j = 0 ∨ j = 1 by omega) with e | e <;> subst e
          · rw [Nat.add_zero] at *; omega
          · omega
        rw [c2 _ (by omega)]
        refine rv _ (by omega) ?_
        rw [show (Z 21 r).toNat = v by omega]
        refine (lv _ (by omega)).mpr (Or.inr ?_)
        rcases (show j = 0 ∨ j = 1 by omega) with e | e <;> subst e
        · rw [Nat.add_zero] at *; exact Or.inl (by omega)
        · exact Or.inr (by omega)
    · intro i hi
      rw [c3 i hi]; exact R3.isB i hi
  refine ⟨⟨?_, ?_, ?_, t4.f FG (fun j => ⟨⟨by simp, by simp⟩, by simp⟩), ?_, ?_⟩, ⟨?_, ?_, ?_, ?_, ?_, ?_⟩, ?_, ?_, ?_, ?_, ?_⟩
  · have p3 : ∀ j, hT G (3, j, 0) = hT h (3, j, 0) := fun j => by rw [tg, F.T ⟨by simp, by simp⟩]
    unfold FmW at *
    rw [p3, p3, p3, p3, p3, p3, rO 0 0 (by decide), rO 0 1 (by decide), rO 0 2 (by decide), rO 0 3 (by decide), rO 0 4 (by decide), rO 0 5 (by decide)]
    exact t1
  · exact ⟨fc.keep (L := 4) t2.1 (j0 _ (by decide)) (fun i => rO _ i (by decide)), fc.keep (L := 8) t2.2.1 (j0 _ (by decide)) (fun i => rO _ i (by decide)), fc.keep (L := 20) t2.2.2.1 (j0 _ (by decide)) (fun i => rO _ i (by decide)), fc.keep (L := 8) t2.2.2.2.1 (j0 _ (by decide)) (fun i => rO _ i (by decide)), fc.inc (L := 512) t2.2.2.2.2 (t3.2.2.2.2.trans em) (by omega) j9 rk⟩
  · rw [j0 6 (by decide), j0 7 (by decide), j0 8 (by decide), j0 9 (by decide), j9, y32, ya 0 rfl, ya 13 rfl, ya 19 rfl, ya 28 rfl]
    exact ⟨t3.1, t3.2.1, t3.2.2.1, t3.2.2.2.1, rfl⟩
  · intro s' h1
    rw [ya 0 rfl] at h1
    rw [FG.I ⟨⟨by simp, by simp⟩, by simp⟩]; exact t6 s' h1
  · rw [y27, y32]; omega
  · intro s' i h1 h2
    rw [ya 0 rfl] at h2
    rw [FG.T ⟨⟨by simp, by simp⟩, by simp⟩]; exact f1 s' i h1 h2
  · intro s' v h1 h3 h2
    rw [ya 0 rfl, ya 1 rfl] at h2
    rw [FG.T ⟨⟨by simp, by simp⟩, by simp⟩, FG.T ⟨⟨by simp, by simp⟩, by simp⟩, FG.T ⟨⟨by simp, by simp⟩, by simp⟩]; exact f2 s' v h1 h3 h2
  · intro x h1
    rw [ya 13 rfl] at h1
    rw [FG.T ⟨⟨by simp, by simp⟩, by simp⟩]; exact f3 x h1
  · intro x h1
    rw [ya 19 rfl] at h1
    obtain ⟨z1, z2⟩ := f4 x h1
    rw [FG.T ⟨⟨by simp, by simp⟩, by simp⟩]
    exact ⟨z1, fun i => by rw [FG.T ⟨⟨by simp, by simp⟩, by simp⟩]; exact z2 i⟩
  · intro x h1
    rw [ya 28 rfl] at h1
    rw [FG.T ⟨⟨by simp, by simp⟩, by simp⟩]; exact f5 x h1
  · intro x h1
    rw [y32] at h1
    have hne : ¬ x = k := by omega
    rw [FG.T (by simp [hne])]
    exact ⟨(f6 x (by omega)).1, fun i => by rw [FG.T (by simp [hne])]; exact (f6 x (by omega)).2 i⟩
  · intro s' h1
    rw [ya 0 rfl] at h1
    obtain ⟨k1, k2, k3⟩ := sc s' h1
    have n4 : ∀ y z : Nat, ((¬ (((4, y, z) : Nm).1 = 11 ∧ ((4, y, z) : Nm).2.1 = k) ∧ ¬ (((4, y, z) : Nm).1 = 14 ∧ ((4, y, z) : Nm).2.1 = k)) ∧ ¬ ((4, y, z) : Nm).1 = 3) := fun y z => ⟨⟨by simp, by simp⟩, by simp⟩
    exact ⟨(k1.fr3 k2.b1.2 FG (fun _ _ => n4 _ _) (fun v _ => ⟨⟨⟨by simp, by simp⟩, by simp⟩, ⟨⟨by simp, by simp⟩, by simp⟩, ⟨⟨by simp, by simp⟩, by simp⟩⟩)).z sv, k2.c sv, fun z => (k3 z).f FG (n4 _ _) (n4 _ _) sv (by rw [ya 11 rfl]) (fun i _ => by rw [ya 12 rfl])⟩
  · intro x h1
    rw [ya 13 rfl] at h1
    exact (ff x h1).f FG ⟨⟨by simp, by simp⟩, by simp⟩ (fun j hj => ya j (by
      simp only [Bool.or_eq_true, beq_iff_eq] at hj
      rcases hj with (((h | h) | h) | h) | h <;> subst h <;> rfl)) (by rw [ya 0 rfl]; exact Int.le_refl _) (by rw [ya 2 rfl]; exact Int.le_refl _)
  · intro x h1
    rw [ya 19 rfl] at h1
    obtain ⟨x1, x2, x3, x4, x5, x6, x7⟩ := rr x h1
    unfold RR
    have p9 : hI G (9, x, 0) 2 = hI h (9, x, 0) 2 := FG.I ⟨⟨by simp, by simp⟩, by simp⟩ _
    rw [ya 20 rfl, ya 26 rfl, ya 0 rfl, p9, y27, y32]
    refine ⟨x1.f FG ⟨⟨by simp, by simp⟩, by simp⟩, x2, (x3.zc (by rw [ya 1 rfl]) (ya 5 rfl) (ya 7 rfl) (by rw [ya 21 rfl]) (fun _ _ => by rw [ya 22 rfl]) (by rw [ya 23 rfl]) (fun _ _ => by rw [ya 24 rfl]) (fun _ _ => by rw [ya 25 rfl])).f FG (fun j => ⟨⟨by simp, by simp⟩, by simp⟩), by omega, by omega, llx _ _ _ x5 (by omega) x6, fun z => ?_⟩
    obtain ⟨l1, J⟩ := x7 z
    rw [yk 34 _ (by omega) (by omega)]
    exact ⟨l1, jjx _ _ _ _ (by omega) (fun j => ⟨by simp, by simp, by simp⟩) J⟩
  · intro x h1
    rw [ya 28 rfl] at h1
    have := (mm x h1).2.2.2.2
    exact (mm x h1).f FG ⟨⟨by simp, by simp⟩, by simp⟩ (fun j hj => ya j (by
      simp only [Bool.or_eq_true, beq_iff_eq] at hj
      rcases hj with (h | h) | h <;> subst h <;> rfl)) (by rw [ya 0 rfl]; exact Int.le_refl _) (by omega)
  · intro x h1
    rw [y32] at h1
    by_cases z : x = k
    · subst z; exact gk
    · obtain ⟨u1, u2, u3, u4, u5, u6, u7, u8, u9, u10, u11⟩ := kk x (by omega)
      have hx : x < k := by omega
      have n11 : ∀ y z, (y = 11 ∨ y = 14) → ((¬ (((y, x, z) : Nm).1 = 11 ∧ ((y, x, z) : Nm).2.1 = k) ∧ ¬ (((y, x, z) : Nm).1 = 14 ∧ ((y, x, z) : Nm).2.1 = k)) ∧ ¬ ((y, x, z) : Nm).1 = 3) := fun y w hy => ⟨⟨fun t => z t.2, fun t => z t.2⟩, by dsimp only; omega⟩
      have p11 : ∀ i, hI G (11, x, 0) i = hI h (11, x, 0) i := FG.I (n11 11 0 (Or.inl rfl))
      unfold KK
      rw [yk 33 x (by omega) z, yk 34 x (by omega) z, yk 35 x (by omega) z, yk 36 x (by omega) z, ya 20 rfl, ya 19 rfl, p11, p11, p11, y27]
      refine ⟨u1.f FG (n11 11 0 (Or.inl rfl)) (fun j => n11 14 j (Or.inr rfl)), u2, u3, u4, u5, u6, by omega, llx _ _ _ u7.2 (by omega) u8, fun w => ?_, ?_, fun i hi => by rw [FG.I (n11 14 2 (Or.inr rfl))]; exact u11 i hi⟩
      · obtain ⟨l1, J⟩ := u9 w
        rw [yk 34 _ (by omega) (by omega)]
        exact ⟨l1, jjx _ _ _ _ (by omega) (fun j => ⟨by simp, by simp, fun t => z t.2⟩) J⟩
      · exact NN.ca (eA x z) (u10.f2 FG (fun j => n11 14 j (Or.inr rfl)) (st _) (fun j hj => yk j x (by omega) z) (fun j hj i hi => yj j x i hj z hi))
end K2

/-! ===== the relation: things made; the face: mover, form ===== -/
section J0
variable {Q : AH → AO → Prop} {h g G : AH} {Z Y X : ZT} {c q s a b r x : Nat} {A : Nat → Nat}
/-- a counted array -/
def fc (h : AH) (ix ar n nm : Nat) (L : Int) : Prop := (0 ≤ hI h (3, 0, 0) ix ∧ hI h (3, 0, 0) ix ≤ L) ∧ ∀ i : Nat, i < n → hR h (3, ar, 0) i = if (i : Int) < hI h (3, 0, 0) ix then some (nm, i, 0) else none
theorem fc.keep {ix ar n nm : Nat} {L : Int} (k : fc h ix ar n nm L) (e1 : hI g (3, 0, 0) ix = hI h (3, 0, 0) ix) (e2 : ∀ i, hR g (3, ar, 0) i = hR h (3, ar, 0) i) : fc g ix ar n nm L := by
  unfold fc
  rw [e1]
  exact ⟨k.1, fun i hi => by rw [e2]; exact k.2 i hi⟩
theorem fc.inc {ix ar n nm m : Nat} {L : Int} (k : fc h ix ar n nm L) (em : hI h (3, 0, 0) ix = (m : Int)) (hm : (m : Int) + 1 ≤ L) (e1 : hI g (3, 0, 0) ix = (m : Int) + 1) (e2 : ∀ i, hR g (3, ar, 0) i = if i = m then some (nm, m, 0) else hR h (3, ar, 0) i) : fc g ix ar n nm L := by
  unfold fc
  rw [e1]
  refine ⟨by omega, fun i hi => ?_⟩
  rw [e2]
  by_cases z : i = m
  · rw [if_pos z, if_pos (by omega), z]
  · rw [if_neg z, k.2 i hi, em]
    by_cases y : (i : Int) < m
    · rw [if_pos y, if_pos (by omega)]
    · rw [if_neg y, if_neg (by omega)]
/-- what was there is there still -/
def nEx (Z : ZT) (n : Nm) : Prop := n.1 = 4 ∨ n.1 = 5 ∨ n.1 = 6 ∨ n.1 = 7 ∨ (n.1 = 8 ∧ (n.2.1 : Int) < Z 13 0) ∨ ((n.1 = 9 ∨ n.1 = 13) ∧ (n.2.1 : Int) < Z 19 0) ∨ (n.1 = 10 ∧ (n.2.1 : Int) < Z 28 0) ∨ ((n.1 = 11 ∨ n.1 = 14) ∧ (n.2.1 : Int) < Z 32 0) ∨ n.1 = 12
theorem SIMq.ext (S : SIMq A 9 h Z c) (F : Fr (nEx Z) h g) (o : ∀ j, (j == 0 || j == 1 || j == 2 || j == 3 || j == 4 || j == 5 || j == 6 || j == 7 || j == 8 || j == 9 || j == 10 || j == 11 || j == 12 || j == 32 || j == 33 || j == 34 || j == 35 || j == 36 || j == 37 || j == 38 || j == 39 || j == 40 || j == 41 || j == 42) = true → Y j = Z j)
    (o8 : ∀ k : Nat, (k : Int) < Z 13 0 → Y 14 k = Z 14 k ∧ Y 15 k = Z 15 k ∧ Y 16 k = Z 16 k ∧ ∀ f, f < 48 → Y 17 (48 * k + f) = Z 17 (48 * k + f) ∧ Y 18 (48 * k + f) = Z 18 (48 * k + f)) (o9 : ∀ x : Nat, (x : Int) < Z 19 0 → Y 20 x = Z 20 x ∧ Y 26 x = Z 26 x ∧ zRw Y Z x) (a27 : Z 27 0 ≤ Y 27 0) (a19 : Z 19 0 ≤ Y 19 0) (o10 : ∀ m : Nat, (m : Int) < Z 28 0 → Y 29 m = Z 29 m ∧ Y 30 m = Z 30 m ∧ Y 31 m = Z 31 m) :
    (∀ s : Nat, (s : Int) < Z 0 0 → SV g Y s ∧ ZS Y s ∧ (¬ s = 9 → SQ g Y s)) ∧ (∀ k : Nat, (k : Int) < Z 13 0 → FF g Y k) ∧ (∀ r : Nat, (r : Int) < Z 19 0 → RR A g Y r) ∧ (∀ m : Nat, (m : Int) < Z 28 0 → MM g Y m) ∧ (∀ k : Nat, (k : Int) < Z 32 0 → KK A g Y k) := by
  have zz := S.zz
  have z19 := S.c19
  have sv : zSv Y Z := fun j hj => o j (by
    simp only [Bool.or_eq_true, beq_iff_eq] at hj
    rcases hj with ((((((((h | h) | h) | h) | h) | h) | h) | h) | h) | h <;> subst h <;> rfl)
  obtain ⟨-, -, sc, ff, rr, mm, kk⟩ := S
  have n4 : ∀ y z : Nat, nEx Z (4, y, z) := fun y z => Or.inl rfl
  refine ⟨fun s' h1 => ?_, fun k h1 => ?_, fun x h1 => ?_, fun m h1 => ?_, fun k h1 => ?_⟩
  · obtain ⟨k1, k2, k3⟩ := sc s' h1
    exact ⟨(k1.fr3 k2.b1.2 F (fun _ _ => n4 _ _) (fun v _ => ⟨Or.inr (Or.inl rfl), Or.inr (Or.inr (Or.inl rfl)), Or.inr (Or.inr (Or.inr (Or.inl rfl)))⟩)).z sv, k2.c sv, fun z => (k3 z).f F (n4 _ _) (n4 _ _) sv (by rw [o 11 rfl]) (fun i _ => by rw [o 12 rfl])⟩
  · have hP : nEx Z (8, k, 0) := Or.inr (Or.inr (Or.inr (Or.inr (Or.inl ⟨rfl, h1⟩))))
    obtain ⟨o14, o15, o16, o17⟩ := o8 k h1
    have fk := ff k h1
    unfold FF ForW at *
    rw [F.T hP, F.R hP, F.I hP, F.I hP, F.L hP, F.L hP, o14, o15, o16, o 0 rfl, o 2 rfl]
    obtain ⟨s1, s2, s3, s4, s5, s6⟩ := fk
    refine ⟨s1, s2, s3, fun f hf => ?_, fun f hf => ?_, fun z f hf => ?_⟩
    · obtain ⟨a1, a2⟩ := s4 f hf
      by_cases y : f < 48
      · rw [(o17 f y).1, (o17 f y).2]; exact ⟨a1, a2⟩
      · exact ⟨a1.trans ⟨fun x => absurd x.1 y, fun x => absurd x.1 y⟩, a2.trans ⟨fun x => absurd x.1 y, fun x => absurd x.1 y⟩⟩
    · rw [(o17 f hf).1]; exact s5 f hf
    · rw [(o17 f hf).1]; exact s6 z f hf
  · have h9 : ∀ y, (y = 9 ∨ y = 13) → ∀ z, nEx Z (y, x, z) := fun y hy z => Or.inr (Or.inr (Or.inr (Or.inr (Or.inr (Or.inl ⟨hy, h1⟩)))))
    obtain ⟨r1, r2, r3, r4, r5, r6, r7⟩ := rr x h1
    obtain ⟨y20, y26, y21, y23, y22, y24, y25⟩ := o9 x h1
    unfold RR
    rw [y20, y26, o 0 rfl, o 32 rfl, o 34 rfl, F.I (h9 9 (Or.inl rfl) 0)]
    refine ⟨r1.f F (h9 9 (Or.inl rfl) 0), r2, (r3.zc (by rw [sv 1 rfl]) (sv 5 rfl) (sv 7 rfl) y21 y22 y23 y24 y25).f F (h9 13 (Or.inr rfl)), r4, by omega, LL.cc (by rw [o 32 rfl]) (o 34 rfl) (o 35 rfl) r6, fun w => ⟨(r7 w).1, (r7 w).2.f F (h9 13 (Or.inr rfl)) (fun j => ?_) sv.sc⟩⟩
    exact Or.inr (Or.inr (Or.inr (Or.inr (Or.inr (Or.inr (Or.inr (Or.inl ⟨Or.inr rfl, by dsimp only; omega⟩)))))))
  · have hP : nEx Z (10, m, 0) := Or.inr (Or.inr (Or.inr (Or.inr (Or.inr (Or.inr (Or.inl ⟨rfl, h1⟩))))))
    obtain ⟨o29, o30, o31⟩ := o10 m h1
    have mk := mm m h1
    unfold MM MvrW at *
    rw [F.T hP, F.R hP, F.I hP, F.I hP, o29, o30, o31, o 0 rfl, o 32 rfl]
    exact mk
  · have h14 : ∀ y, (y = 11 ∨ y = 14) → ∀ k' : Nat, (k' : Int) < Z 32 0 → ∀ z, nEx Z (y, k', z) := fun y hy k' hk z => Or.inr (Or.inr (Or.inr (Or.inr (Or.inr (Or.inr (Or.inr (Or.inl ⟨hy, hk⟩)))))))
    obtain ⟨r1, r2, r3, r4, r5, r6, r7, r8, r9, r10, r11⟩ := kk k h1
    have h11 := h14 11 (Or.inl rfl) k h1 0
    have y20 := (o9 (Z 34 k).toNat (by omega)).1
    unfold KK
    rw [o 33 rfl, o 34 rfl, o 35 rfl, o 36 rfl, y20, F.I h11, F.I h11, F.I h11]
    refine ⟨r1.f F h11 (h14 14 (Or.inr rfl) k h1), by omega, r3, r4, r5, r6, by omega, LL.cc (by rw [o 32 rfl]) (o 34 rfl) (o 35 rfl) r8, fun z => ⟨(r9 z).1, (r9 z).2.f F (h14 14 (Or.inr rfl) k h1) (h14 14 (Or.inr rfl) _ (by omega)) sv.sc⟩, r10.f F (h14 14 (Or.inr rfl) k h1) sv.sc (fun j hj => o j ?_), fun i hi => by rw [F.I (h14 14 (Or.inr rfl) k h1 _)]; exact r11 i hi⟩
    simp only [Bool.or_eq_true, beq_iff_eq] at hj
    rcases hj with ((((h | h) | h) | h) | h) | h <;> subst h <;> rfl
/-- what is not made yet is blank in the model -/
def NZ (Z : ZT) : Prop := (∀ s : Nat, s < 4 → Z 0 0 ≤ (s : Int) → Z 1 s = 0 ∧ Z 2 s = 0 ∧ Z 11 s = 0 ∧ ∀ v f : Nat, v < 24 → f < 48 → Z 5 (48 * (24 * s + v) + f) = -1) ∧ (∀ g : Nat, g < 8 → Z 13 0 ≤ (g : Int) → Z 16 g = 0 ∧ ∀ f : Nat, f < 48 → Z 17 (48 * g + f) = 0) ∧ (∀ r : Nat, r < 20 → Z 19 0 ≤ (r : Int) → Z 23 r = 0 ∧ ∀ w : Nat, w < 24 → Z 24 (24 * r + w) = 0)
/-- the heap behind a mover made -/
def cMv (h : AH) (m s : Nat) (t : Int) : AH := sI (sR (sI (sI (sR (aN h (10, m, 0) 3 0) (10, m, 0) 0 (some (4, s, 0))) (10, m, 0) 1 t) (10, m, 0) 2 (-1)) (3, 4, 0) m (some (10, m, 0))) (3, 0, 0) 9 ((m : Int) + 1)
set_option maxHeartbeats 1000000 in
theorem X_mv {m s : Nat} {t : Int} (S : SIMq A 9 h Z c) (em : Z 28 0 = (m : Int)) (hm : m < 8) (hs : (s : Int) < Z 0 0) : SIMq A 9 (cMv h m s t) (zMov Z s t) c ∧ Fr nMo h (cMv h m s t) := by
  have zz := S.zz
  have yo : ∀ j, ¬ j = 28 → ¬ j = 29 → ¬ j = 30 → ¬ j = 31 → ¬ j = 48 → zMov Z s t j = Z j := fun j h28 h29 h30 h31 h48 => by
    unfold zMov; rw [zs_oj (beq_ne h28), zs_oj (beq_ne h31), zs_oj (beq_ne h30), zs_oj (beq_ne h29), zs_oj (beq_ne h48)]
  have y28 : zMov Z s t 28 0 = (m : Int) + 1 := by unfold zMov; rw [zs_eq rfl rfl, em]
  have y29 : ∀ x, zMov Z s t 29 x = if x = m then (s : Int) else Z 29 x := fun x => by
    unfold zMov
    rw [em, Int.toNat_natCast]
    refine zs_ne rfl (zs_ne rfl (zs_ne rfl ?_))
    by_cases z : x = m
    · rw [if_pos z, zs_eq z rfl]
    · rw [if_neg z, zs_miss z (zs_ne rfl rfl)]
  have y30 : ∀ x, zMov Z s t 30 x = if x = m then t else Z 30 x := fun x => by
    unfold zMov
    rw [em, Int.toNat_natCast]
    refine zs_ne rfl (zs_ne rfl ?_)
    by_cases z : x = m
    · rw [if_pos z, zs_eq z rfl]
    · rw [if_neg z, zs_miss z (zs_ne rfl (zs_ne rfl rfl))]
  have y31 : ∀ x, zMov Z s t 31 x = if x = m then -1 else Z 31 x := fun x => by
    unfold zMov
    rw [em, Int.toNat_natCast]
    refine zs_ne rfl ?_
    by_cases z : x = m
    · rw [if_pos z, zs_eq z rfl]
    · rw [if_neg z, zs_miss z (zs_ne rfl (zs_ne rfl (zs_ne rfl rfl)))]
  generalize zMov Z s t = Y at *
  have F : Fr (fun n => ¬ n = (10, m, 0) ∧ ¬ n = (3, 4, 0) ∧ ¬ n = (3, 0, 0)) h (cMv h m s t) := by
    unfold cMv
    exact ((((((Fr.rf.nw (fun z => z.1 rfl)).wR (fun z => z.1 rfl)).wI (fun z => z.1 rfl)).wI (fun z => z.1 rfl)).wR (fun z => z.2.1 rfl)).wI (fun z => z.2.2 rfl))
  have Fe : Fr (nEx Z) h (cMv h m s t) := F.mo (fun n z => by
    refine ⟨fun w => ?_, fun w => ?_, fun w => ?_⟩
    · rw [w] at z; unfold nEx at z; simp at z; omega
    · rw [w] at z; unfold nEx at z; simp at z
    · rw [w] at z; unfold nEx at z; simp at z)
  obtain ⟨e1, e2, e3, e4, e5⟩ := S.ext (Y := Y) Fe (fun j hj => yo j (fun e => by subst e; exact absurd hj (by decide)) (fun e => by subst e; exact absurd hj (by decide)) (fun e => by subst e; exact absurd hj (by decide)) (fun e => by subst e; exact absurd hj (by decide)) (fun e => by subst e; exact absurd hj (by decide)))
    (fun k _ => ⟨by rw [yo 14 (by decide) (by decide) (by decide) (by decide) (by decide)], by rw [yo 15 (by decide) (by decide) (by decide) (by decide) (by decide)], by rw [yo 16 (by decide) (by decide) (by decide) (by decide) (by decide)], fun f _ => ⟨by rw [yo 17 (by decide) (by decide) (by decide) (by decide) (by decide)], by rw [yo 18 (by decide) (by decide) (by decide) (by decide) (by decide)]⟩⟩)
    (fun x _ => ⟨by rw [yo 20 (by decide) (by decide) (by decide) (by decide) (by decide)], by rw [yo 26 (by decide) (by decide) (by decide) (by decide) (by decide)], zRw.fn (fun j hj => yo j (fun e => by subst e; exact absurd hj (by decide)) (fun e => by subst e; exact absurd hj (by decide)) (fun e => by subst e; exact absurd hj (by decide)) (fun e => by subst e; exact absurd hj (by decide)) (fun e => by subst e; exact absurd hj (by decide)))⟩)
    (by rw [yo 27 (by decide) (by decide) (by decide) (by decide) (by decide)]; exact Int.le_refl _) (by rw [yo 19 (by decide) (by decide) (by decide) (by decide) (by decide)]; exact Int.le_refl _) (fun x hx => ⟨by rw [y29, if_neg (by omega)], by rw [y30, if_neg (by omega)], by rw [y31, if_neg (by omega)]⟩)
  have i0 : ∀ j, ¬ j = 9 → hI (cMv h m s t) (3, 0, 0) j = hI h (3, 0, 0) j := fun j hj => by
    unfold cMv
    rw [hI_m hj rfl, hI_sR, hI_n1 rfl (hI_n1 rfl rfl), hI_sR, hI_aN, if_neg (by simp)]
  have i9 : hI (cMv h m s t) (3, 0, 0) 9 = (m : Int) + 1 := hI_e rfl rfl
  have rO : ∀ x i, ¬ x = 4 → hR (cMv h m s t) (3, x, 0) i = hR h (3, x, 0) i := fun x i hx => by
    unfold cMv
    simp [hR_sI, hR_sR, hR_aN, hx]
  have r4 : ∀ i, hR (cMv h m s t) (3, 4, 0) i = if i = m then some (10, m, 0) else hR h (3, 4, 0) i := fun i => by
    unfold cMv
    simp [hR_sI, hR_sR, hR_aN]
  have tO : ∀ n, ¬ n = (10, m, 0) → hT (cMv h m s t) n = hT h n := fun n hn => by
    unfold cMv
    simp [hT_sI, hT_sR, hT_aN, hn]
  obtain ⟨⟨t1, t2, t3, t4, t6, t5⟩, ⟨f1, f2, f3, f4, f5, f6⟩, -⟩ := S
  refine ⟨⟨⟨?_, ?_, ?_, t4.f F (fun j => ⟨by simp, by simp, by simp⟩), ?_, ?_⟩, ⟨?_, ?_, ?_, ?_, ?_, ?_⟩, ?_, ?_, ?_, ?_, ?_⟩, F.mo (fun n z => by
    refine ⟨fun w => ?_, fun w => ?_, fun w => ?_⟩ <;> (rw [w] at z; rcases z with z | z <;> simp at z))⟩
  · unfold FmW at *
    rw [tO _ (by simp), tO _ (by simp), tO _ (by simp), tO _ (by simp), tO _ (by simp), tO _ (by simp), rO 0 0 (by decide), rO 0 1 (by decide), rO 0 2 (by decide), rO 0 3 (by decide), rO 0 4 (by decide), rO 0 5 (by decide)]
    exact t1
  · exact ⟨fc.keep (L := 4) t2.1 (i0 _ (by decide)) (fun i => rO _ i (by decide)), fc.keep (L := 8) t2.2.1 (i0 _ (by decide)) (fun i => rO _ i (by decide)), fc.keep (L := 20) t2.2.2.1 (i0 _ (by decide)) (fun i => rO _ i (by decide)), fc.inc (L := 8) t2.2.2.2.1 (t3.2.2.2.1.trans em) (by omega) i9 r4, fc.keep (L := 512) t2.2.2.2.2 (i0 _ (by decide)) (fun i => rO _ i (by decide))⟩
  · rw [i0 6 (by decide), i0 7 (by decide), i0 8 (by decide), i9, i0 10 (by decide), y28, yo 0 (by decide) (by decide) (by decide) (by decide) (by decide), yo 13 (by decide) (by decide) (by decide) (by decide) (by decide), yo 19 (by decide) (by decide) (by decide) (by decide) (by decide), yo 32 (by decide) (by decide) (by decide) (by decide) (by decide)]
    exact ⟨t3.1, t3.2.1, t3.2.2.1, rfl, t3.2.2.2.2⟩
  · intro s' h1
    rw [yo 0 (by decide) (by decide) (by decide) (by decide) (by decide)] at h1
    rw [Fe.I (n := (4, s', 0)) (Or.inl rfl)]; exact t6 s' h1
  · rw [yo 27 (by decide) (by decide) (by decide) (by decide) (by decide), yo 32 (by decide) (by decide) (by decide) (by decide) (by decide)]; exact t5
  · intro s' i h1 h2
    rw [yo 0 (by decide) (by decide) (by decide) (by decide) (by decide)] at h2
    rw [tO _ (by simp)]; exact f1 s' i h1 h2
  · intro s' v h1 h3 h2
    rw [yo 0 (by decide) (by decide) (by decide) (by decide) (by decide), yo 1 (by decide) (by decide) (by decide) (by decide) (by decide)] at h2
    rw [tO _ (by simp), tO _ (by simp), tO _ (by simp)]; exact f2 s' v h1 h3 h2
  · intro k h1
    rw [yo 13 (by decide) (by decide) (by decide) (by decide) (by decide)] at h1
    rw [tO _ (by simp)]; exact f3 k h1
  · intro r h1
    rw [yo 19 (by decide) (by decide) (by decide) (by decide) (by decide)] at h1
    rw [tO _ (by simp)]
    exact ⟨(f4 r h1).1, fun i => by rw [tO _ (by simp)]; exact (f4 r h1).2 i⟩
  · intro x h1
    rw [y28] at h1
    rw [tO _ (by simp; omega)]; exact f5 x (by omega)
  · intro k h1
    rw [yo 32 (by decide) (by decide) (by decide) (by decide) (by decide)] at h1
    rw [tO _ (by simp)]
    exact ⟨(f6 k h1).1, fun i => by rw [tO _ (by simp)]; exact (f6 k h1).2 i⟩
  · rw [yo 0 (by decide) (by decide) (by decide) (by decide) (by decide)]; exact e1
  · rw [yo 13 (by decide) (by decide) (by decide) (by decide) (by decide)]; exact e2
  · rw [yo 19 (by decide) (by decide) (by decide) (by decide) (by decide)]; exact e3
  · intro x h1
    rw [y28] at h1
    by_cases z : x = m
    · subst z
      unfold MM MvrW
      rw [y29, y30, y31, if_pos rfl, if_pos rfl, if_pos rfl, Int.toNat_natCast, yo 0 (by decide) (by decide) (by decide) (by decide) (by decide), yo 32 (by decide) (by decide) (by decide) (by decide) (by decide)]
      refine ⟨⟨?_, ?_⟩, ⟨by omega, hs⟩, ?_, ?_, by omega, ?_⟩
      · unfold cMv; simp [hT_sI, hT_sR, hT_aN]
      · unfold cMv; simp [hR_sI, hR_sR]
      · unfold cMv; simp [hI_sI, hI_sR]
      · unfold cMv; simp [hI_sI, hI_sR]
      · have := t2.2.2.2.2.1; rw [t3.2.2.2.2] at this; omega
    · exact e4 x (by omega)
  · rw [yo 32 (by decide) (by decide) (by decide) (by decide) (by decide)]; exact e5
set_option maxHeartbeats 1000000 in
theorem sX7_mover {s t : Int} (S : SIM h Z c) (k1 : zcVer Z s t (Z 28 0 = 8) = 1 → Q h (.inr eIx)) (k2 : zcVer Z s t (Z 28 0 = 8) = 2 → Q h (.inr eIs))
    (k0 : zcVer Z s t (Z 28 0 = 8) = 0 → ∀ g, SIM g (zMov Z s t) c → Fr nMo h g → Q g (.inl (some (vi (Z 28 0))))) : AC mX7_mover fX7_mover loX7_mover 4 24 h [vr mF, vi s, vi t] Q := by
  obtain ⟨A, S⟩ := S
  have W := S.1.1
  have C := S.1.2.1
  have eC := S.1.2.2.1.1
  have e9 := S.1.2.2.1.2.2.2.1
  have zz := S.zz
  have z28 := S.c28
  refine AC.mk (by decide) (Nat.le_of_ble_eq_true rfl) ?_
  by_cases hs : ¬ (0 ≤ s ∧ s < Z 0 0)
  · have e1 : zcVer Z s t (Z 28 0 = 8) = 1 := cd2_1 (fun z => hs z.1)
    refine AW.aload_n dX7_mover_0 rfl ?_
    refine AW.iload_n dX7_mover_1 rfl ?_
    refine AW.callV (as := [vi _]) dX7_mover_2 rfl rfl rfl okX7_schemaAt lkX7_58 W.o rfl rfl rfl rfl rfl rfl rfl (kX7_schemaAt W C (fun _ => k1 e1) (fun z => absurd (eC ▸ z) hs))
    skip
  have hs := Classical.not_not.mp hs
  obtain ⟨s, rfl⟩ := Int.eq_ofNat_of_zero_le hs.1
  obtain ⟨S1, K, SQ1⟩ := S.sc hs.2
  have SQ1 := SQ1 (by omega)
  have b1 := K.b1
  have W5 := S1.1
  have B5 := S1.sb K (by rw [SQ1.1]; exact SQ1.2.1)
  obtain ⟨m, em⟩ := Int.eq_ofNat_of_zero_le z28.1
  have n10 := S.2.1.2.2.2.2.1 m (by omega)
  have c9 : hI (sI (sI (sR (aN h (10, m, 0) 3 0) (10, m, 0) 0 (some (4, s, 0))) (10, m, 0) 1 t) (10, m, 0) 2 (-1)) (3, 0, 0) 9 = (m : Int) := by
    have : hI h (3, 0, 0) 9 = (m : Int) := e9.trans em
    simp [hI_sI, hI_sR, hI_aN, this]
  have cMW : hT (sI (sI (sR (aN h (10, m, 0) 3 0) (10, m, 0) 0 (some (4, s, 0))) (10, m, 0) 1 t) (10, m, 0) 2 (-1)) (10, m, 0) = some (3, 0) := by simp [hT_sI, hT_sR, hT_aN]
  have cFW : FmW (sI (sI (sR (aN h (10, m, 0) 3 0) (10, m, 0) 0 (some (4, s, 0))) (10, m, 0) 1 t) (10, m, 0) 2 (-1)) := W.f (P := fun n => ¬ n = (10, m, 0)) ((((Fr.rf.nw (fun z => z rfl)).wR (fun z => z rfl)).wI (fun z => z rfl)).wI (fun z => z rfl)) (fun j => by simp)
  refine AW.aload_n dX7_mover_0 rfl ?_
  refine AW.iload_n dX7_mover_1 rfl ?_
  refine AW.callV (as := [vi _]) dX7_mover_2 rfl rfl rfl okX7_schemaAt lkX7_58 W.o rfl rfl rfl rfl rfl rfl rfl (kX7_schemaN W C (by rw [eC]; exact hs.2) (AW.k1 ?_))
  refine AW.astore_n dX7_mover_5 rfl ?_
  refine AW.aload_n dX7_mover_6 rfl ?_
  refine AW.iload_n dX7_mover_7 rfl ?_
  refine AW.callV (as := [vi _]) dX7_mover_8 rfl rfl rfl okX4_isVersion lkX7_183 W5.o rfl rfl rfl rfl rfl rfl rfl (kX4_isVersion W5 B5 (AW.k1 ?_))
  refine AW.if_ne (tgt := 24) dX7_mover_11 rfl (fun c_11 => ?_) (fun c_11 => ?_)
  · have hv := bz_n0.mp c_11
    rw [S1.hd] at hv
    refine AW.aload_n dX7_mover_24 rfl ?_
    refine AW.getIE (j := 9) W.o dX7_mover_25 lkX7_353 rfl rfl inC8 rfl (by exact e9.trans em) ?_
    refine AW.bipush dX7_mover_28 bp_8 (by decide) ?_
    refine AW.icmp_lt (tgt := 44) dX7_mover_30 rfl (fun c_30 => ?_) (fun c_30 => ?_)
    · have e0 : zcVer Z s t (Z 28 0 = 8) = 0 := cd2_z (fun z => z ⟨hs, hv⟩) (by omega)
      refine AW.aload_n dX7_mover_44 rfl ?_
      refine AW.getIE (j := 9) W.o dX7_mover_45 lkX7_353 rfl rfl inC8 rfl (by exact e9.trans em) ?_
      refine AW.istore dX7_mover_48 rfl ?_
      refine AW.aload_n dX7_mover_50 rfl ?_
      refine AW.getRE (j := 3) W.o dX7_mover_51 lkX7_29 rfl rfl inC8 rfl W.r3 ?_
      refine AW.iload dX7_mover_54 rfl ?_
      refine AW.new (kc := 3) (10, m, 0) n10 dX7_mover_56 rfl inC3 lkX7_27 insX2 iniX2 rfl rfl ?_
      refine AW.dup dX7_mover_59 rfl ?_
      refine AW.aload_n dX7_mover_60 rfl ?_
      refine AW.iload_n dX7_mover_61 rfl ?_
      refine AW.callI (as := [vq _, vi _]) dX7_mover_62 rfl rfl rfl okX2_init lkX7_358 rfl rfl rfl rfl rfl (kX2_init hT_new (AW.k0 ?_))
      refine AW.astR (t := 6) dX7_mover_65 (show hT (sI (sI (sR (aN h (10, m, 0) 3 0) (10, m, 0) 0 (some (4, s, 0))) (10, m, 0) 1 t) (10, m, 0) 2 (-1)) (3, 4, 0) = some (26, 8) from cFW.t3) (by decide) (by decide) rfl cMW (by omega) (by omega) ?_
      refine AW.aload_n dX7_mover_66 rfl ?_
      refine AW.dup dX7_mover_67 rfl ?_
      refine AW.getIE (j := 9) cFW.o dX7_mover_68 lkX7_353 rfl rfl inC8 rfl (by exact c9) ?_
      refine AW.iconst dX7_mover_71 (by decide) ?_
      refine AW.iaddB dX7_mover_72 (by omega) ?_
      refine AW.putI (j := 9) dX7_mover_73 cFW.o rfl rfl inC8 lkX7_353 rfl (Or.inl rfl) (Or.inl rfl) ?_
      refine AW.iload dX7_mover_76 rfl ?_
      refine AW.iret dX7_mover_78 rfl ?_
      rw [em] at k0
      have P := X_mv (t := t) S em (by omega) hs.2
      exact k0 (em ▸ e0) _ ⟨A, P.1⟩ P.2
    · refine AW.throwW dX7_mover_33 dX7_mover_36 dX7_mover_37 dX7_mover_40 dX7_mover_43 rfl okTX7_50 strX7_356 rfl rfl rfl rfl rfl ?_
      exact k2 (cd2_2 (fun z => z ⟨hs, hv⟩) (by omega))
  · refine AW.throwS dX7_mover_14 dX7_mover_17 dX7_mover_18 dX7_mover_20 dX7_mover_23 rfl okTX7_186 strX7_188 rfl rfl rfl rfl rfl ?_
    exact k1 (cd2_1 (fun z => bz_0.mp c_11 (by rw [S1.hd]; exact z.2)))
end J0

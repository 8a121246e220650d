/-! ===== the relation: the face: schema ===== -/
section L4
variable {Q : AH → AO → Prop} {h g G : AH} {Z Y X : ZT} {c q s a b r x m : Nat} {A : Nat → Nat}
set_option maxHeartbeats 1000000 in
theorem X_sch (S : SIMq A 9 h Z c) (N : NZ Z) (em : Z 0 0 = (s : Int)) (hs : s < 4) (I : IS s h g 11) :
    SIMq A 9 (sI (sR (hfl g (4, s, 100) (fun _ => -1) 26) (3, 1, 0) s (some (4, s, 0))) (3, 0, 0) 6 ((s : Int) + 1)) (zs (zs Z 48 0 0) 0 0 (Z 0 0 + 1)) c ∧ Fr nMo h (sI (sR (hfl g (4, s, 100) (fun _ => -1) 26) (3, 1, 0) s (some (4, s, 0))) (3, 0, 0) 6 ((s : Int) + 1)) := by
  have zz := S.zz
  obtain ⟨n1, n2, n11, n5⟩ := N.1 s hs (by omega)
  have y0 : zs (zs Z 48 0 0) 0 0 (Z 0 0 + 1) 0 0 = (s : Int) + 1 := by rw [zs_eq rfl rfl, em]
  have ya : ∀ j, ¬ j = 0 → ¬ j = 48 → zs (zs Z 48 0 0) 0 0 (Z 0 0 + 1) j = Z j := fun j h0 h48 => by rw [zs_oj (beq_ne h0), zs_oj (beq_ne h48)]
  generalize zs (zs Z 48 0 0) 0 0 (Z 0 0 + 1) = Y at *
  have on : ∀ {p : Nat → Bool}, p 0 = false → p 48 = false → ∀ j, p j = true → Y j = Z j := fun hp hp2 j hj => ya j (fun e => by subst e; rw [hp] at hj; cases hj) (fun e => by subst e; rw [hp2] at hj; cases hj)
  have sv : zSv Y Z := on rfl rfl
  have W := I.W
  obtain ⟨F, i2, i3, i4, i5, i6, i7, i8⟩ := I
  have i5 := i5 (by decide)
  have g1 : hT (sI (sR (hfl g (4, s, 100) (fun _ => -1) 26) (3, 1, 0) s (some (4, s, 0))) (3, 0, 0) 6 ((s : Int) + 1)) = hT g := rfl
  have Fg : Fr (fun n => ¬ n.1 = 3 ∧ ¬ n = (4, s, 100)) g (sI (sR (hfl g (4, s, 100) (fun _ => -1) 26) (3, 1, 0) s (some (4, s, 0))) (3, 0, 0) 6 ((s : Int) + 1)) := ((Fr.rf.fl (fun z => z.2 rfl)).wR (fun z => z.1 rfl)).wI (fun z => z.1 rfl)
  have q100 : ∀ i, i < 26 → hI (sI (sR (hfl g (4, s, 100) (fun _ => -1) 26) (3, 1, 0) s (some (4, s, 0))) (3, 0, 0) 6 ((s : Int) + 1)) (4, s, 100) i = -1 := fun i hi => by
    rw [hI_n1 rfl rfl, hI_sR, hI_hfl, if_pos ⟨rfl, hi⟩]
  have WG : SchW (sI (sR (hfl g (4, s, 100) (fun _ => -1) 26) (3, 1, 0) s (some (4, s, 0))) (3, 0, 0) 6 ((s : Int) + 1)) s := by
    unfold SchW at *
    rw [g1]
    simp only [hR_sI, hR_sR, Prod.mk.injEq, show ¬ (4 : Nat) = 3 from by decide, false_and, if_false]
    exact W
  have rO : ∀ x i, ¬ x = 1 → hR (sI (sR (hfl g (4, s, 100) (fun _ => -1) 26) (3, 1, 0) s (some (4, s, 0))) (3, 0, 0) 6 ((s : Int) + 1)) (3, x, 0) i = hR h (3, x, 0) i := fun x i hx => by
    rw [← F.R (n := (3, x, 0)) (by simp)]
    rw [hR_sI, hR_sR, if_neg (by simp [hx])]; rfl
  have rk : ∀ i, hR (sI (sR (hfl g (4, s, 100) (fun _ => -1) 26) (3, 1, 0) s (some (4, s, 0))) (3, 0, 0) 6 ((s : Int) + 1)) (3, 1, 0) i = if i = s then some (4, s, 0) else hR h (3, 1, 0) i := fun i => by
    rw [← F.R (n := (3, 1, 0)) (by simp)]
    rw [hR_sI, hR_sR]
    by_cases y : i = s
    · rw [if_pos ⟨rfl, y⟩, if_pos y]
    · rw [if_neg (fun z => y z.2), if_neg y]; rfl
  have j0 : ∀ j, ¬ j = 6 → hI (sI (sR (hfl g (4, s, 100) (fun _ => -1) 26) (3, 1, 0) s (some (4, s, 0))) (3, 0, 0) 6 ((s : Int) + 1)) (3, 0, 0) j = hI h (3, 0, 0) j := fun j hj => by
    rw [hI_m hj rfl, hI_sR, hfl_n1 rfl rfl, F.I (by simp)]
  have j9 : hI (sI (sR (hfl g (4, s, 100) (fun _ => -1) 26) (3, 1, 0) s (some (4, s, 0))) (3, 0, 0) 6 ((s : Int) + 1)) (3, 0, 0) 6 = (s : Int) + 1 := hI_e rfl rfl
  generalize sI (sR (hfl g (4, s, 100) (fun _ => -1) 26) (3, 1, 0) s (some (4, s, 0))) (3, 0, 0) 6 ((s : Int) + 1) = G at *
  have FG : Fr (fun n => ¬ (n.1 = 4 ∧ n.2.1 = s) ∧ ¬ n.1 = 3) h G := (F.mo (fun n z => z.1)).tr (Fg.mo (fun n z => ⟨z.2, fun w => z.1 (by rw [w]; exact ⟨rfl, rfl⟩)⟩))
  have p0 : ∀ j, j < 11 → ∀ i, hI G (4, s, j) i = 0 ∧ hL G (4, s, j) i = 0 := fun j hj i => by
    have nj : ¬ ((4, s, j) : Nm).1 = 3 ∧ ¬ ((4, s, j) : Nm) = (4, s, 100) := ⟨by simp, fun z => by have := congrArg (fun n : Nm => n.2.2) z; dsimp only at this; omega⟩
    rw [Fg.I nj, Fg.L nj]; exact i7 j hj i
  have e0 : Z 0 0 ≤ Y 0 0 := by omega
  have SVs : SV G Y s := by
    refine ⟨WG, ⟨by rw [(p0 0 (by decide) 0).1, ya 1 (by decide) (by decide), n1], by rw [(p0 0 (by decide) 2).1, ya 2 (by decide) (by decide), n2]⟩, fun f hf => ?_, fun v n hv hn => ?_, fun v f hv hf => ?_, ⟨by rw [Fg.R ⟨by simp, by simp⟩]; exact i8 (by decide) 0, fun v h1 hv => ?_⟩⟩
    · rw [ya 2 (by decide) (by decide), n2] at hf; omega
    · rw [ya 1 (by decide) (by decide), n1] at hv
      have : v = 0 := by omega
      subst this
      rw [ya 2 (by decide) (by decide), n2]
      have q := q100 n hn
      refine ⟨?_, fun f hf => absurd hf (by omega)⟩
      show -1 ≤ hI G (4, s, 100) n ∧ hI G (4, s, 100) n < 0
      rw [q]; decide
    · rw [ya 1 (by decide) (by decide), n1] at hv
      have : v = 0 := by omega
      subst this
      rw [(p0 4 (by decide) 0).2]
      refine ⟨fun z => absurd z bt_0, fun hf2 z => ?_⟩
      rw [ya 5 (by decide) (by decide)] at z
      exact absurd (n5 0 f (by omega) hf2) z
    · rw [ya 1 (by decide) (by decide), n1] at hv; omega
  have ZSs : ZS Y s := by
    unfold ZS
    rw [ya 1 (by decide) (by decide), ya 2 (by decide) (by decide), ya 5 (by decide) (by decide), n1, n2]
    refine ⟨by omega, fun v f hv hf _ => n5 v f hv hf, fun v f hv hf => by rw [n5 v f hv hf]; omega, fun f hf => absurd hf (by omega), fun v h1 h2 => by omega⟩
  have SQs : SQ G Y s := by
    unfold SQ
    rw [(p0 0 (by decide) 1).1, ya 11 (by decide) (by decide), n11]
    exact ⟨rfl, by omega, fun i hi => absurd hi (by omega), fun i j hi => absurd hi (by omega), fun i => by rw [(p0 6 (by decide) i).1]; omega⟩
  obtain ⟨⟨t1, t2, t3, t4, t6, t5⟩, ⟨f1, f2, f3, f4, f5, f6⟩, sc, ff, rr, mm, kk⟩ := S
  refine ⟨⟨⟨?_, ?_, ?_, t4.f FG (fun j => ⟨by simp, by simp⟩), ?_, ?_⟩, ⟨?_, ?_, ?_, ?_, ?_, ?_⟩, ?_, ?_, ?_, ?_, ?_⟩, FG.mo (fun n z => ⟨fun w => ?_, fun w => ?_⟩)⟩
  · have p3 : ∀ j, hT G (3, j, 0) = hT h (3, j, 0) := fun j => by rw [g1, F.T (by simp)]
    unfold FmW at *
    rw [p3, p3, p3, p3, p3, p3, rO 0 0 (by decide), rO 0 1 (by decide), rO 0 2 (by decide), rO 0 3 (by decide), rO 0 4 (by decide), rO 0 5 (by decide)]
    exact t1
  · exact ⟨fc.inc (L := 4) t2.1 (t3.1.trans em) (by omega) j9 rk, fc.keep (L := 8) t2.2.1 (j0 _ (by decide)) (fun i => rO _ i (by decide)), fc.keep (L := 20) t2.2.2.1 (j0 _ (by decide)) (fun i => rO _ i (by decide)), fc.keep (L := 8) t2.2.2.2.1 (j0 _ (by decide)) (fun i => rO _ i (by decide)), fc.keep (L := 512) t2.2.2.2.2 (j0 _ (by decide)) (fun i => rO _ i (by decide))⟩
  · rw [j9, j0 7 (by decide), j0 8 (by decide), j0 9 (by decide), j0 10 (by decide), y0, ya 13 (by decide) (by decide), ya 19 (by decide) (by decide), ya 28 (by decide) (by decide), ya 32 (by decide) (by decide)]
    exact ⟨rfl, t3.2⟩
  · intro s' h1
    rw [y0] at h1
    by_cases e : s' = s
    · subst e; rw [(p0 0 (by decide) 1).1]; omega
    · rw [FG.I ⟨fun z => e z.2, by simp⟩]; exact t6 s' (by omega)
  · rw [ya 27 (by decide) (by decide), ya 32 (by decide) (by decide)]; exact t5
  · intro s' i h1 h2
    rw [y0] at h2
    rw [FG.T ⟨fun z => by have := z.2; dsimp only at this; omega, by simp⟩]; exact f1 s' i h1 (by omega)
  · intro s' v h1 h3 h2
    rw [y0, ya 1 (by decide) (by decide)] at h2
    rw [FG.T ⟨by simp, by simp⟩, FG.T ⟨by simp, by simp⟩, FG.T ⟨by simp, by simp⟩]; exact f2 s' v h1 h3 (by omega)
  · intro x h1
    rw [ya 13 (by decide) (by decide)] at h1
    rw [FG.T ⟨by simp, by simp⟩]; exact f3 x h1
  · intro x h1
    rw [ya 19 (by decide) (by decide)] at h1
    obtain ⟨z1, z2⟩ := f4 x h1
    rw [FG.T ⟨by simp, by simp⟩]
    exact ⟨z1, fun i => by rw [FG.T ⟨by simp, by simp⟩]; exact z2 i⟩
  · intro x h1
    rw [ya 28 (by decide) (by decide)] at h1
    rw [FG.T ⟨by simp, by simp⟩]; exact f5 x h1
  · intro x h1
    rw [ya 32 (by decide) (by decide)] at h1
    rw [FG.T ⟨by simp, by simp⟩]
    exact ⟨(f6 x h1).1, fun i => by rw [FG.T ⟨by simp, by simp⟩]; exact (f6 x h1).2 i⟩
  · intro s' h1
    rw [y0] at h1
    by_cases e : s' = s
    · subst e; exact ⟨SVs, ZSs, fun _ => SQs⟩
    · obtain ⟨k1, k2, k3⟩ := sc s' (by omega)
      have n4 : ∀ z : Nat, (¬ (((4, s', z) : Nm).1 = 4 ∧ ((4, s', z) : Nm).2.1 = s) ∧ ¬ ((4, s', z) : Nm).1 = 3) := fun z => ⟨fun w => e w.2, by simp⟩
      exact ⟨(k1.fr3 k2.b1.2 FG (fun _ _ => n4 _) (fun v _ => ⟨⟨by simp, by simp⟩, ⟨by simp, by simp⟩, ⟨by simp, by simp⟩⟩)).z sv, k2.c sv, fun z => (k3 z).f FG (n4 _) (n4 _) sv (by rw [ya 11 (by decide) (by decide)]) (fun i _ => by rw [ya 12 (by decide) (by decide)])⟩
  · intro x h1
    rw [ya 13 (by decide) (by decide)] at h1
    exact (ff x h1).f FG ⟨by simp, by simp⟩ (on rfl rfl) e0 (by rw [ya 2 (by decide) (by decide)]; exact Int.le_refl _)
  · intro x h1
    rw [ya 19 (by decide) (by decide)] at h1
    exact (rr x h1).f FG ⟨by simp, by simp⟩ (fun j => ⟨by simp, by simp⟩) (fun k j => ⟨by simp, by simp⟩) (on rfl rfl) e0 sv.sc (fun R => R.zc (by rw [ya 1 (by decide) (by decide)]) (ya 5 (by decide) (by decide)) (ya 7 (by decide) (by decide)) (by rw [ya 21 (by decide) (by decide)]) (fun _ _ => by rw [ya 22 (by decide) (by decide)]) (by rw [ya 23 (by decide) (by decide)]) (fun _ _ => by rw [ya 24 (by decide) (by decide)]) (fun _ _ => by rw [ya 25 (by decide) (by decide)]))
  · intro x h1
    rw [ya 28 (by decide) (by decide)] at h1
    exact (mm x h1).f FG ⟨by simp, by simp⟩ (on rfl rfl) e0 (by rw [ya 32 (by decide) (by decide)]; exact Int.le_refl _)
  · intro x h1
    rw [ya 32 (by decide) (by decide)] at h1
    exact (kk x h1).f FG ⟨by simp, by simp⟩ (fun k j => ⟨by simp, by simp⟩) (on rfl rfl) (by rw [ya 19 (by decide) (by decide)]; exact Int.le_refl _) sv.sc
  · rcases z with z | z <;> omega
  · rcases z with z | z <;> omega
set_option maxHeartbeats 1000000 in
theorem sX7_schema (S : SIM h Z c) (N : NZ Z) (k1 : Z 0 0 = 4 → Q h (.inr eIs)) (k0 : Z 0 0 < 4 → ∀ g, SIM g (zs (zs Z 48 0 0) 0 0 (Z 0 0 + 1)) c → Fr nMo h g → Q g (.inl (some (vi (Z 0 0))))) : AC mX7_schema fX7_schema loX7_schema 36 900 h [vr mF] Q := by
  obtain ⟨A, S⟩ := S
  have W := S.1.1
  have C := S.1.2.1
  have e6 := S.1.2.2.1.1
  have zz := S.zz
  obtain ⟨s, em⟩ := Int.eq_ofNat_of_zero_le zz.1
  have es : hI h (3, 0, 0) 6 = (s : Int) := e6.trans em
  refine AC.mk (by decide) (Nat.le_of_ble_eq_true rfl) ?_
  by_cases hs : s = 4
  · refine AW.aload_n dX7_schema_0 rfl ?_
    refine AW.getIE (j := 6) W.o dX7_schema_1 lkX7_46 rfl rfl inC8 rfl (by exact es) ?_
    refine AW.iconst dX7_schema_4 (by decide) ?_
    refine AW.icmp_lt (tgt := 18) dX7_schema_5 rfl (fun c_5 => ?_) (fun c_5 => ?_)
    · exact absurd c_5 (by omega)
    · refine AW.throwS dX7_schema_8 dX7_schema_11 dX7_schema_12 dX7_schema_14 dX7_schema_17 rfl okTX7_50 strX7_52 rfl rfl rfl rfl rfl ?_
      exact k1 (by omega)
  have n4 : ∀ i, hT h (4, s, i) = none := fun i => S.2.1.1 s i (by omega) (by omega)
  refine AW.aload_n dX7_schema_0 rfl ?_
  refine AW.getIE (j := 6) W.o dX7_schema_1 lkX7_46 rfl rfl inC8 rfl (by exact es) ?_
  refine AW.iconst dX7_schema_4 (by decide) ?_
  refine AW.icmp_lt (tgt := 18) dX7_schema_5 rfl (fun c_5 => ?_) (fun c_5 => ?_)
  · refine AW.aload_n dX7_schema_18 rfl ?_
    refine AW.getIE (j := 6) W.o dX7_schema_19 lkX7_46 rfl rfl inC8 rfl (by exact es) ?_
    refine AW.istore_n dX7_schema_22 rfl ?_
    refine AW.aload_n dX7_schema_23 rfl ?_
    refine AW.getRE (j := 0) W.o dX7_schema_24 lkX7_11 rfl rfl inC8 rfl W.r0 ?_
    refine AW.iload_n dX7_schema_27 rfl ?_
    refine AW.new (kc := 5) (4, s, 0) (n4 0) dX7_schema_28 rfl inC5 lkX7_9 insX4 iniX4 rfl rfl ?_
    refine AW.dup dX7_schema_31 rfl ?_
    refine AW.callI (as := []) dX7_schema_32 rfl rfl rfl okX4_init lkX7_57 rfl rfl rfl rfl rfl (kX4_n n4 (fun g I => (AW.k0 ?_)))
    have P := X_sch S N em (by omega) I
    have Fg : Fr (fun n => ¬ n.1 = 4) h (hfl g (4, s, 100) (fun _ => -1) 26) := (I.1.mo (fun n z w => z w.1)).fl (fun z => z rfl)
    have cF : FmW (hfl g (4, s, 100) (fun _ => -1) 26) := W.f Fg (fun j => by simp)
    have c6 : hI (hfl g (4, s, 100) (fun _ => -1) 26) (3, 0, 0) 6 = (s : Int) := (by rw [Fg.I (by simp)]; exact es)
    have cO : hT (hfl g (4, s, 100) (fun _ => -1) 26) (4, s, 0) = some (5, 0) := I.2.1
    refine AW.astR (t := 3) dX7_schema_35 cF.t0 (by decide) (by decide) rfl cO (by omega) (by omega) ?_
    refine AW.aload_n dX7_schema_36 rfl ?_
    refine AW.dup dX7_schema_37 rfl ?_
    refine AW.getIE (j := 6) cF.o dX7_schema_38 lkX7_46 rfl rfl inC8 rfl (by exact c6) ?_
    refine AW.iconst dX7_schema_41 (by decide) ?_
    refine AW.iaddB dX7_schema_42 (by omega) ?_
    refine AW.putI (j := 6) dX7_schema_43 cF.o rfl rfl inC8 lkX7_46 rfl (Or.inl rfl) (Or.inl rfl) ?_
    refine AW.iload_n dX7_schema_46 rfl ?_
    refine AW.iret dX7_schema_47 rfl ?_
    rw [em] at k0
    rw [em] at P
    exact k0 (by omega) _ ⟨A, P.1⟩ P.2
  · exact absurd c_5 (by omega)
end L4

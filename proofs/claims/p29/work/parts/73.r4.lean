/-! ===== the relation: a row carried over a step, whole ===== -/
section R4
variable {h g H : AH} {Z Y : ZT} {s a b q V : Nat}
theorem zv_22 {F x : Int} {f : Nat} (hF : -1 ≤ F) : zv Y q F x 22 (48 * q + f) = if (f : Int) = F then x else Y 22 (48 * q + f) := by
  unfold zv
  by_cases e : F = -1
  · rw [if_pos e, if_neg (by omega)]
  · rw [if_neg e]
    by_cases c : (f : Int) = F
    · rw [if_pos c, zs_eq (by omega) rfl]
    · rw [if_neg c, zs_miss (by omega) rfl]
theorem cpt_1 {T x : Int} {f : Nat} (hf : f < 46) (hT : -1 ≤ T) : hI (cpt H a b T x) (a, b, 1) f = if (f : Int) = T then x else hI H (a, b, 1) f := by
  unfold cpt
  by_cases e : 0 ≤ T ∧ T < 46
  · rw [if_pos e]
    by_cases c : (f : Int) = T
    · rw [if_pos c, hI_e (by omega) rfl]
    · rw [if_neg c, hI_m (by omega) rfl]
  · rw [if_neg e, if_neg (by omega)]
theorem cpt_o {T x : Int} {j i : Nat} (hj : ¬ j = 1) : hI (cpt H a b T x) (a, b, j) i = hI H (a, b, j) i := by
  unfold cpt
  split
  · exact hI_n3 (beq_ne hj) rfl
  · rfl
theorem caw_o {e x y : Int} {j i : Nat} (hj : ¬ j = 2) (hj3 : ¬ j = 3) : hI (caw H a b e x y) (a, b, j) i = hI H (a, b, j) i := by
  unfold caw
  rw [hI_n3 (beq_ne hj3) rfl, hI_n3 (beq_ne hj3) rfl, hI_n3 (beq_ne hj) rfl]
theorem SV.kpt {T x : Int} (S : SV h Z s) (ha : 7 < a) : SV (cpt h a b T x) Z s := by
  unfold cpt; split
  · exact S.w ha
  · exact S
theorem SV.kaw {e x y : Int} (S : SV h Z s) (ha : 7 < a) : SV (caw h a b e x y) Z s := by
  unfold caw; exact ((S.w ha).w ha).w ha
theorem SV.z (S : SV h Z s) (e : zSv Y Z) : SV h Y s := S.fr2 Fr.rf S.1 e
theorem X_C {v : Nat} {u l0 l1 : Int} (hu : u = 0 ∨ u = 1) (S : SV H Z s) (K : ZS Z s) (ha : 7 < a) (h1 : 1 ≤ v) (h2 : (v : Int) ≤ Z 1 s) (hr : ¬ Z 7 (24 * s + v) = 1) (R : RWx H Z s a b q V) :
    ∃ H' r0 r1 Z', cbox s (24 * s + v) a b u v l0 l1 H = (H', r0, r1) ∧ zmvC Z q s v (24 * (q : Int) + (v : Int)) u l0 l1 (zG0 Z u s v l0 l1) (zG1 Z u s v l0) = (Z', r0, r1) ∧ RWx H' Z' s a b q V ∧ SV H' Z' s ∧ zSv Z' Z ∧ ¬ Z' 24 (24 * q + v) = (if u = 0 then 1 else 2) ∧ hI H' (a, b, 0) 0 = hI H (a, b, 0) 0 := by
  have b1 := K.b1
  have R1 := R.2.2.2 v (by omega)
  have xb := X_box hu R1
  have eq : (24 * (q : Int) + (v : Int)).toNat = 24 * q + v := by omega
  unfold cbox zmvC
  by_cases c : Z 24 (24 * (q : Int) + (v : Int)).toNat = (if u = 0 then 1 else 2)
  · obtain ⟨y0, y1⟩ := X_bxv hu R1 c
    have S2 : SV (sI H (a, b, 2) (2 * (v : Int) + u).toNat 0) Z s := S.w ha
    rw [if_neg (fun z => xb.mp z c), if_pos c, S2.tl0 K h1 h2 hr, S2.tl1 K h1 h2, y0, y1, S.tl0 K h1 h2 hr, S.tl1 K h1 h2]
    have o1 := R.off hu (by omega) c
    by_cases d : zbk Z s v (24 * (q : Int) + (v : Int)) u l0 l1
    · rw [if_pos d, if_pos d]
      refine ⟨_, _, _, _, rfl, rfl, o1, S2.z (zSv.rf.z rfl), zSv.rf.z rfl, ?_, hI_n3 rfl rfl⟩
      rw [← eq, zs_eq rfl rfl]
      split <;> decide
    · rw [if_neg d, if_neg d]
      have o2 := o1.los
      rw [hI_n3 (n := (a, b, 0)) rfl rfl, show zs Z 24 (24 * (q : Int) + (v : Int)).toNat 0 23 q = Z 23 q from rfl] at o2
      rw [Int.toNat_natCast q]
      refine ⟨_, _, _, _, rfl, rfl, o2, (S2.w ha).z ((zSv.rf.z rfl).z rfl), (zSv.rf.z rfl).z rfl, ?_, (hI_m (by omega) (hI_n3 rfl rfl))⟩
      rw [← eq, zs_ne rfl (zs_eq rfl rfl)]
      split <;> decide
  · rw [if_pos (xb.mpr c), if_neg c, S.tl0 K h1 h2 hr, S.tl1 K h1 h2]
    exact ⟨_, _, _, _, rfl, rfl, R, S, zSv.rf, by rw [← eq]; exact c, rfl⟩
theorem X_D {v : Nat} {u l0 l1 r0 r1 : Int} (hu : u = 0 ∨ u = 1) (S : SV H Z s) (K : ZS Z s) (ha : 7 < a) (h1 : 1 ≤ v) (h2 : (v : Int) ≤ Z 1 s) (hr : ¬ Z 7 (24 * s + v) = 1) (c : ¬ Z 24 (24 * q + v) = (if u = 0 then 1 else 2)) (R : RWx H Z s a b q V) :
    ∃ H' Z', (if ctl0 H s (24 * s + v) v (nu u) r0 r1 = l0 ∧ ctl1 H s (24 * s + v) v (nu u) r0 = l1 then H else caw H a b (2 * (v : Int) + nu u) l0 l1) = H' ∧ zmvD Z s v (24 * (q : Int) + (v : Int)) u l0 l1 r0 r1 = Z' ∧ RWx H' Z' s a b q V ∧ SV H' Z' s ∧ zSv Z' Z ∧ hI H' (a, b, 0) 0 = hI H (a, b, 0) 0 := by
  have b1 := K.b1
  unfold zmvD
  rw [S.tl0 K h1 h2 hr, S.tl1 K h1 h2]
  by_cases d : zG0 Z (nu u) s v r0 r1 = l0 ∧ zG1 Z (nu u) s v r0 = l1
  · rw [if_pos d, if_pos d]
    exact ⟨_, _, rfl, rfl, R, S, zSv.rf, rfl⟩
  · rw [if_neg d, if_neg d]
    exact ⟨_, _, rfl, rfl, R.put hu (by omega) ⟨h1, h2⟩ hr c, (S.kaw ha).z (((zSv.rf.z rfl).z rfl).z rfl), ((zSv.rf.z rfl).z rfl).z rfl, caw_o (by decide) (by decide)⟩
theorem zSv.v {r f x : Int} (e : zSv Y Z) : zSv (zv Y r f x) Z := by
  unfold zv; split
  · exact e
  · exact e.z rfl
theorem X_E {W' : Nat} {F0 F1 T0 T1 r0 r1 : Int} (hF0 : -1 ≤ F0) (hF1 : -1 ≤ F1) (hT0 : -1 ≤ T0) (hT1 : -1 ≤ T1) (R : RWx H Z s a b q V)
    (hp : ∀ f : Nat, f < 46 → ¬ Z 5 (48 * (24 * s + W') + f) = -1 → ((f : Int) = T0 ∨ (f : Int) = T1) ∨ (¬ Z 5 (48 * (24 * s + V) + f) = -1 ∧ ¬ (f : Int) = F0 ∧ ¬ (f : Int) = F1)) :
    RWx (cpt (cpt H a b T0 r0) a b T1 r1) (zv (zv (zv (zv Z q F0 (-1)) q F1 (-1)) q T0 r0) q T1 r1) s a b q W' := by
  obtain ⟨k1, k2, k3, k4⟩ := R
  have zo : ∀ j, ¬ j = 22 → zv (zv (zv (zv Z q F0 (-1)) q F1 (-1)) q T0 r0) q T1 r1 j = Z j := fun j hj => by
    have e : Nat.beq j 22 = false := beq_ne hj
    rw [zv_o e, zv_o e, zv_o e, zv_o e]
  refine ⟨?_, ?_, ?_, ?_⟩
  · unfold cpt; (repeat' split) <;> exact k1
  · rw [cpt_o (by decide), cpt_o (by decide), zo 23 (by decide)]; exact k2
  · unfold RVl at k3 ⊢
    intro f hf
    rw [zo 5 (by decide)]
    intro hw
    rw [cpt_1 hf hT1, cpt_1 hf hT0, zv_22 hT1, zv_22 hT0, zv_22 hF1, zv_22 hF0]
    by_cases e1 : (f : Int) = T1
    · rw [if_pos e1, if_pos e1]
    · rw [if_neg e1, if_neg e1]
      by_cases e0 : (f : Int) = T0
      · rw [if_pos e0, if_pos e0]
      · rw [if_neg e0, if_neg e0]
        rcases hp f hf hw with z | ⟨z1, z2, z3⟩
        · rcases z with z | z
          · exact absurd z e0
          · exact absurd z e1
        · rw [if_neg z3, if_neg z2]
          exact k3 f hf z1
  · intro w hw
    refine RB1.c (k4 w hw) (by rw [cpt_o (by decide), cpt_o (by decide)]) (by rw [cpt_o (by decide), cpt_o (by decide)]) (fun j _ => by rw [cpt_o (by decide), cpt_o (by decide)]) ?_ ?_ ?_ (fun j _ => ?_)
    · rw [zo 1 (by decide)]
    · rw [zo 7 (by decide)]
    · rw [zo 24 (by decide)]
    · rw [zo 25 (by decide)]
theorem RWx.c (R : RWx H Z s a b q V) (W : StaW g a b) (e : ∀ j i, ¬ (j = 0 ∧ i = 0) → j < 4 → hI g (a, b, j) i = hI H (a, b, j) i) (ez : ∀ j, ¬ j = 21 → Y j = Z j) : RWx g Y s a b q V := by
  obtain ⟨-, k2, k3, k4⟩ := R
  refine ⟨W, ?_, ?_, ?_⟩
  · rw [e 0 1 (by omega) (by omega), ez 23 (by decide)]; exact k2
  · unfold RVl at k3 ⊢
    intro f hf
    rw [e 1 f (by omega) (by omega), ez 5 (by decide), ez 22 (by decide)]
    exact k3 f hf
  · intro w hw
    refine RB1.c (k4 w hw) (e 2 _ (by omega) (by omega)) (e 2 _ (by omega) (by omega)) (fun j _ => e 3 _ (by omega) (by omega)) ?_ ?_ ?_ (fun j _ => ?_)
    · rw [ez 1 (by decide)]
    · rw [ez 7 (by decide)]
    · rw [ez 24 (by decide)]
    · rw [ez 25 (by decide)]
/-- the values that are left -/
theorem X_L {F : Int} (R : RVl h Z s a b q V) (hF : -1 ≤ F ∧ F < 46) (hp : ¬ F = -1 → ¬ Z 5 (48 * (24 * s + V) + F.toNat) = -1) : cvl h a b F = if F = -1 then -1 else Z 22 (48 * (q : Int) + F).toNat := by
  unfold cvl
  by_cases e : F = -1
  · rw [if_neg (by omega), if_pos e]
  · rw [if_pos (by omega), if_neg e, R F.toNat (by omega) (hp e)]
    congr 1; omega
set_option maxHeartbeats 1000000 in
theorem RW.car {v : Nat} {u : Int} (hu : u = 0 ∨ u = 1) (S : SV h Z s) (K : ZS Z s) (ha : 7 < a) (h1 : 1 ≤ v) (h2 : (v : Int) ≤ Z 1 s) (ev : Z 21 q = if u = 0 then (v : Int) else (v : Int) - 1) (R : RW h Z s a b q) :
    RW (ccl h s (24 * s + v) a b u v) (zmv Z q s v u) s a b q := by
  have b1 := K.b1
  have b2 := K.b2
  obtain ⟨-, P, e7, e10, e1, e2, e3, e4⟩ := S.st h1 h2
  have zp := K.zp h1 h2
  obtain ⟨⟨p1, p2, p3, p4⟩, kk, kp, kf0, kf1, kn⟩ := K.zp h1 h2
  obtain ⟨⟨r1, r2, r3⟩, R⟩ := R
  have S0 : SV (sI h (a, b, 0) 0 (if u = 0 then (v : Int) - 1 else v)) Z s := S.w ha
  have R0 : RWx (sI h (a, b, 0) 0 (if u = 0 then (v : Int) - 1 else v)) Z s a b q (Z 21 q).toNat := by
    refine R.c R.1 (fun j i hj _ => ?_) (fun _ _ => rfl)
    rw [hI_sI, if_neg]
    rintro ⟨z1, z2⟩
    simp at z1
    exact hj ⟨z1, z2⟩
  have on0 : zon Z (24 * (s : Int) + (v : Int)) u 0 = if Z 7 (24 * s + v) = 1 then -1 else if u = 0 then Z 9 (2 * (24 * s + v)) else Z 8 (2 * (24 * s + v)) := by
    unfold zon zbe zfr; rw [tn_p, tn_20 (p := 24 * (s : Int) + (v : Int)) (q := 24 * s + v) (by omega)]
  have on1 : zon Z (24 * (s : Int) + (v : Int)) u 1 = if Z 7 (24 * s + v) = 1 then -1 else if u = 0 then Z 9 (2 * (24 * s + v) + 1) else Z 8 (2 * (24 * s + v) + 1) := by
    unfold zon zbe zfr; rw [tn_p, tn_21 (p := 24 * (s : Int) + (v : Int)) (q := 24 * s + v) (by omega)]
  have nu0 : (nu u = 0) ↔ ¬ u = 0 := by unfold nu; split <;> simp_all
  have om0 : zon Z (24 * (s : Int) + (v : Int)) (nu u) 0 = if Z 7 (24 * s + v) = 1 then -1 else if u = 0 then Z 8 (2 * (24 * s + v)) else Z 9 (2 * (24 * s + v)) := by
    unfold zon zbe zfr; rw [tn_p, tn_20 (p := 24 * (s : Int) + (v : Int)) (q := 24 * s + v) (by omega)]
    by_cases c : u = 0
    · rw [if_neg (fun z => nu0.mp z c), if_pos c]
    · rw [if_pos (nu0.mpr c), if_neg c]
  have om1 : zon Z (24 * (s : Int) + (v : Int)) (nu u) 1 = if Z 7 (24 * s + v) = 1 then -1 else if u = 0 then Z 8 (2 * (24 * s + v) + 1) else Z 9 (2 * (24 * s + v) + 1) := by
    unfold zon zbe zfr; rw [tn_p, tn_21 (p := 24 * (s : Int) + (v : Int)) (q := 24 * s + v) (by omega)]
    by_cases c : u = 0
    · rw [if_neg (fun z => nu0.mp z c), if_pos c]
    · rw [if_pos (nu0.mpr c), if_neg c]
  have vers : (if u = 0 then (v : Int) - 1 else v) = if u = 0 then (v : Int) - 1 else v := rfl
  by_cases hr : Z 7 (24 * s + v) = 1
  · -- rename
    have hd : Z 9 (2 * (24 * s + v) + 1) = -1 ∧ Z 8 (2 * (24 * s + v) + 1) = -1 := by
      rcases kk with ⟨w, -⟩ | ⟨w, y1, y2, y3, y4⟩ | ⟨w, -⟩ | ⟨w, -⟩ | ⟨w, -⟩ | ⟨w, -⟩
      · omega
      · exact ⟨y4, y2⟩
      · omega
      · omega
      · omega
      · omega
    have g0 : ∀ u x y, zG0 Z u s v x y = -1 := fun u x y => by
      unfold zG0 zD0 zU0; rw [tn_p, if_pos hr, if_pos hr]; split <;> rfl
    have g1 : ∀ u x, zG1 Z u s v x = -1 := fun u x => by
      unfold zG1 zD1 zU1 zD1r zU1r zfr zbe zned
      rw [tn_p, tn_21 (p := 24 * (s : Int) + (v : Int)) (q := 24 * s + v) (by omega), hd.1, hd.2, hr]
      simp
    have bx := (R.2.2.2 v (by omega)).2.2.2.2.2 (Or.inr (Or.inr hr))
    have ezv : zmv Z q s v u = zs Z 21 q (if u = 0 then (v : Int) - 1 else v) := by
      unfold zmv
      dsimp only
      unfold zL
      rw [on0, on1, if_pos hr, if_pos hr, if_pos rfl, g0, g1]
      unfold zmvC
      rw [show (24 * (q : Int) + (v : Int)).toNat = 24 * q + v by omega, bx, if_neg (by split <;> decide)]
      dsimp only
      unfold zmvD
      rw [g0, g1, if_pos ⟨rfl, rfl⟩]
      unfold zmvE
      rw [on0, on1, om0, om1, if_pos hr, if_pos hr, if_pos hr, if_pos hr, Int.toNat_natCast]
      rfl
    rw [ezv]
    unfold ccl
    rw [e7, if_pos hr]
    have z21 : zs Z 21 q (if u = 0 then (v : Int) - 1 else v) 21 q = if u = 0 then (v : Int) - 1 else v := zs_eq rfl rfl
    refine ⟨⟨by rw [hI_e rfl rfl, z21], ?_, ?_⟩, ?_⟩
    · rw [z21]; split <;> omega
    · rw [z21]
      show _ ≤ Z 1 s
      split <;> omega
    · rw [z21]
      obtain ⟨t1, t2, t3, t4⟩ := R0
      refine ⟨t1, t2, ?_, t4⟩
      unfold RVl at t3 ⊢
      intro f hf hp
      refine t3 f hf ?_
      have hp : ¬ Z 5 (48 * (24 * s + (if u = 0 then (v : Int) - 1 else (v : Int)).toNat) + f) = -1 := hp
      have kpf := kp f (by omega)
      have y3 : Z 9 (2 * (24 * s + v)) = Z 8 (2 * (24 * s + v)) := by
        rcases kk with ⟨w, -⟩ | ⟨w, y1, y2, y3, y4⟩ | ⟨w, -⟩ | ⟨w, -⟩ | ⟨w, -⟩ | ⟨w, -⟩
        · omega
        · exact y3
        · omega
        · omega
        · omega
        · omega
      have y0 : ¬ Z 8 (2 * (24 * s + v)) = -1 := by
        rcases kk with ⟨w, -⟩ | ⟨w, y1, y2, y3, y4⟩ | ⟨w, -⟩ | ⟨w, -⟩ | ⟨w, -⟩ | ⟨w, -⟩ <;> omega
      have kf := kf0 y0
      rw [ev]
      rw [show 48 * (24 * s + v - 1) = 48 * (24 * s + (v - 1)) by omega] at kpf kf
      rcases hu with rfl | rfl
      · rw [if_pos rfl] at hp ⊢
        rw [show ((v : Int) - 1).toNat = v - 1 by omega] at hp
        rw [Int.toNat_natCast]
        by_cases q1 : (f : Int) = Z 8 (2 * (24 * s + v))
        · exact kpf.mpr (Or.inr (Or.inl (by omega)))
        · exact kpf.mpr (Or.inl ⟨hp, q1, by omega⟩)
      · rw [if_neg (by decide)] at hp ⊢
        rw [Int.toNat_natCast] at hp
        rw [show ((v : Int) - 1).toNat = v - 1 by omega]
        rcases kpf.mp hp with z | z | z
        · exact z.1
        · rw [y3] at z
          rw [show f = (Z 8 (2 * (24 * s + v))).toNat by omega]
          exact kf
        · omega
  · -- any other
    have eL0 : cvl h a b (if u = 0 then hI h (7, 24 * s + v, 0) 0 else hI h (6, 24 * s + v, 0) 0) = zL Z q u (24 * (s : Int) + (v : Int)) 0 := by
      unfold zL
      rw [e3, e1, on0, if_neg hr]
      refine X_L R.2.2.1 (by split <;> omega) ?_
      rw [ev]
      rcases hu with rfl | rfl
      · rw [if_pos rfl, if_pos rfl, Int.toNat_natCast]; exact zp.pb0 b2.2
      · rw [if_neg (by decide), if_neg (by decide), show ((v : Int) - 1).toNat = v - 1 by omega, show 24 * s + (v - 1) = 24 * s + v - 1 by omega]; exact kf0
    have eL1 : cvl h a b (if u = 0 then hI h (7, 24 * s + v, 0) 1 else hI h (6, 24 * s + v, 0) 1) = zL Z q u (24 * (s : Int) + (v : Int)) 1 := by
      unfold zL
      rw [e4, e2, on1, if_neg hr]
      refine X_L R.2.2.1 (by split <;> omega) ?_
      rw [ev]
      rcases hu with rfl | rfl
      · rw [if_pos rfl, if_pos rfl, Int.toNat_natCast]; exact zp.pb1 b2.2
      · rw [if_neg (by decide), if_neg (by decide), show ((v : Int) - 1).toNat = v - 1 by omega, show 24 * s + (v - 1) = 24 * s + v - 1 by omega]; exact kf1
    unfold ccl zmv
    rw [e7, if_neg hr, eL0, eL1]
    dsimp only
    generalize zL Z q u (24 * (s : Int) + (v : Int)) 0 = l0
    generalize zL Z q u (24 * (s : Int) + (v : Int)) 1 = l1
    obtain ⟨H1, r0, r1', Z1, c1, c2, R1, S1, ez1, cb, v1⟩ := X_C (l0 := l0) (l1 := l1) hu S0 K ha h1 h2 hr R0
    rw [c1, c2]
    dsimp only
    have K1 : ZS Z1 s := K.c ez1
    obtain ⟨H2, Z2, d1, d2, R2, S2, ez2, v2⟩ := X_D (l0 := l0) (l1 := l1) (r0 := r0) (r1 := r1') hu S1 K1 ha h1 (by rw [ez1 1 rfl]; exact h2) (by rw [ez1 7 rfl]; exact hr) cb R1
    unfold ccput zmvE
    rw [d1, d2]
    have ez : zSv Z2 Z := fun j hj => (ez2 j hj).trans (ez1 j hj)
    rw [zon_c ez, zon_c ez, zon_c ez, zon_c ez, on0, on1, om0, om1, if_neg hr, if_neg hr, if_neg hr, if_neg hr, e1, e2, e3, e4, Int.toNat_natCast]
    have RE := X_E (r0 := r0) (r1 := r1') (F0 := if u = 0 then Z 9 (2 * (24 * s + v)) else Z 8 (2 * (24 * s + v))) (F1 := if u = 0 then Z 9 (2 * (24 * s + v) + 1) else Z 8 (2 * (24 * s + v) + 1)) (T0 := if u = 0 then Z 8 (2 * (24 * s + v)) else Z 9 (2 * (24 * s + v))) (T1 := if u = 0 then Z 8 (2 * (24 * s + v) + 1) else Z 9 (2 * (24 * s + v) + 1)) (W' := (if u = 0 then (v : Int) - 1 else v).toNat)
      (by split <;> omega) (by split <;> omega) (by split <;> omega) (by split <;> omega) R2 (by
        intro f hf
        rw [ez 5 rfl, ev]
        have kpf := kp f (by omega)
        have knf := kn f (by omega)
        rcases hu with rfl | rfl
        · simp only [if_pos]
          rw [show ((v : Int) - 1).toNat = v - 1 by omega, show 24 * s + (v - 1) = 24 * s + v - 1 by omega, Int.toNat_natCast]
          intro hp
          by_cases q1 : (f : Int) = Z 8 (2 * (24 * s + v))
          · exact Or.inl (Or.inl q1)
          · by_cases q2 : (f : Int) = Z 8 (2 * (24 * s + v) + 1)
            · exact Or.inl (Or.inr q2)
            · refine Or.inr ⟨kpf.mpr (Or.inl ⟨hp, q1, q2⟩), fun z => ?_, fun z => ?_⟩
              · rcases knf (Or.inl z) hp with y | y
                · exact q1 y
                · exact q2 y
              · rcases knf (Or.inr z) hp with y | y
                · exact q1 y
                · exact q2 y
        · simp only [if_neg (show ¬ (1 : Int) = 0 by decide)]
          rw [show ((v : Int) - 1).toNat = v - 1 by omega, show 24 * s + (v - 1) = 24 * s + v - 1 by omega, Int.toNat_natCast]
          intro hp
          rcases kpf.mp hp with z | z | z
          · exact Or.inr z
          · exact Or.inl (Or.inl z)
          · exact Or.inl (Or.inr z))
    generalize hE : zv (zv (zv (zv Z2 q (if u = 0 then Z 9 (2 * (24 * s + v)) else Z 8 (2 * (24 * s + v))) (-1)) q (if u = 0 then Z 9 (2 * (24 * s + v) + 1) else Z 8 (2 * (24 * s + v) + 1)) (-1)) q (if u = 0 then Z 8 (2 * (24 * s + v)) else Z 9 (2 * (24 * s + v))) r0) q (if u = 0 then Z 8 (2 * (24 * s + v) + 1) else Z 9 (2 * (24 * s + v) + 1)) r1' = ZE at RE ⊢
    have ezE : zSv ZE Z := by rw [← hE]; exact (((((ez : zSv Z2 Z)).v).v).v).v
    have z21 : zs ZE 21 q (if u = 0 then (v : Int) - 1 else v) 21 q = if u = 0 then (v : Int) - 1 else v := zs_eq rfl rfl
    refine ⟨⟨?_, ?_, ?_⟩, ?_⟩
    · rw [z21, cpt_o (by decide), cpt_o (by decide), v2, v1, hI_e rfl rfl]
    · rw [z21]; split <;> omega
    · rw [z21]
      show _ ≤ ZE 1 s
      rw [ezE 1 rfl]
      split <;> omega
    · rw [z21]
      exact RE.c RE.1 (fun _ _ _ _ => rfl) (fun j hj => zs_oj (beq_ne hj))
end R4

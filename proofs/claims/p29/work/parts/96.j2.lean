/-! ===== the relation: a row made ===== -/
section J2
variable {Q : AH → AO → Prop} {h g G : AH} {Z Y X : ZT} {c q s a b r x m : Nat} {A : Nat → Nat}
def roj (j : Nat) : Bool := j == 19 || j == 20 || j == 21 || j == 22 || j == 26 || j == 27 || j == 48
theorem zfl_oj {j d n j' : Nat} {f : Nat → Int} (hj : Nat.beq j' j = false) : zfl Z j d f n j' = Z j' := funext fun _ => zfl_ne hj rfl
theorem zRow_o {t v : Int} {j : Nat} (hj : roj j = false) : zRow Z t v j = Z j := by
  unfold roj at hj
  simp only [Bool.or_eq_false_iff, beq_eq_false_iff_ne] at hj
  obtain ⟨⟨⟨⟨⟨⟨h19, h20⟩, h21⟩, h22⟩, h26⟩, h27⟩, h48⟩ := hj
  unfold zRow zcnt
  rw [zs_oj (beq_ne h19), zs_oj (beq_ne h26), zs_oj (beq_ne h27), zfl_oj (beq_ne h22)]
  unfold zRow0
  rw [zs_oj (beq_ne h21), zs_oj (beq_ne h20), zs_oj (beq_ne h48)]
theorem zRow_19 {t v : Int} : zRow Z t v 19 0 = Z 19 0 + 1 := zs_eq rfl rfl
theorem zRow_20 {t v : Int} (em : Z 19 0 = (m : Int)) : zRow Z t v 20 x = if x = m then t else Z 20 x := by
  unfold zRow zcnt
  refine zs_ne rfl (zs_ne rfl (zs_ne rfl (zfl_ne rfl ?_)))
  unfold zRow0
  rw [em, Int.toNat_natCast]
  refine zs_ne rfl ?_
  by_cases z : x = m
  · rw [if_pos z, zs_eq z rfl]
  · rw [if_neg z, zs_miss z (zs_ne rfl rfl)]
theorem zRow_21 {t v : Int} (em : Z 19 0 = (m : Int)) : zRow Z t v 21 x = if x = m then v else Z 21 x := by
  unfold zRow zcnt
  refine zs_ne rfl (zs_ne rfl (zs_ne rfl (zfl_ne rfl ?_)))
  unfold zRow0
  rw [em, Int.toNat_natCast]
  by_cases z : x = m
  · rw [if_pos z, zs_eq z rfl]
  · rw [if_neg z, zs_miss z (zs_ne rfl (zs_ne rfl rfl))]
theorem zRow_22 {t v : Int} (em : Z 19 0 = (m : Int)) {f : Nat} (hf : f < 48) : zRow Z t v 22 (48 * x + f) = if x = m then zrwV Z t v f else Z 22 (48 * x + f) := by
  unfold zRow zcnt
  refine zs_ne rfl (zs_ne rfl (zs_ne rfl ?_))
  unfold zfl
  rw [em, Int.toNat_natCast]
  by_cases z : x = m
  · rw [if_pos z, if_pos ⟨rfl, by omega, by omega⟩, z]; congr 1; omega
  · rw [if_neg z, if_neg (by rintro ⟨-, w1, w2⟩; omega)]
    exact zs_ne rfl (zs_ne rfl (zs_ne rfl rfl))
theorem zRow_27 {t v : Int} (S : SIMq A 9 h Z c) (hc : c < 512) : zRow Z t v 27 0 = Z 27 0 + 1 := by
  have e : zfl (zRow0 Z t v) 22 (48 * (Z 19 0).toNat) (zrwV Z t v) 48 27 0 = Z 27 0 := zfl_ne rfl (zs_ne rfl (zs_ne rfl (zs_ne rfl rfl)))
  unfold zRow zcnt
  rw [zcnt_27 S hc e]
  exact zs_ne rfl (zs_ne rfl (zs_eq rfl rfl))
theorem zRow_26 {t v : Int} (S : SIMq A 9 h Z c) (hc : c < 512) (em : Z 19 0 = (m : Int)) : zRow Z t v 26 x = if x = m then Z 27 0 + 1 else Z 26 x := by
  have e : zfl (zRow0 Z t v) 22 (48 * (Z 19 0).toNat) (zrwV Z t v) 48 27 0 = Z 27 0 := zfl_ne rfl (zs_ne rfl (zs_ne rfl (zs_ne rfl rfl)))
  unfold zRow zcnt
  rw [zcnt_27 S hc e]
  refine zs_ne rfl ?_
  rw [em, Int.toNat_natCast]
  by_cases z : x = m
  · rw [if_pos z, zs_eq z rfl]
  · rw [if_neg z]
    refine zs_miss z (zs_ne rfl (zfl_ne rfl ?_))
    unfold zRow0
    exact zs_ne rfl (zs_ne rfl (zs_ne rfl rfl))
set_option maxHeartbeats 1000000 in
theorem X_row {v : Nat} (S : SIMq A 9 h Z c) (N : NZ Z) (hc : c < 512) (em : Z 19 0 = (m : Int)) (hm : m < 20) (hs : (s : Int) < Z 0 0) (hv : (v : Int) ≤ Z 1 s) (F : Fr (fun n => ¬ n = (9, m, 0) ∧ ¬ (n.1 = 13 ∧ n.2.1 = m)) h g) (W9 : RowW g m s) (e92 : hI g (9, m, 0) 2 = -1) (V13 : StaW g 13 m)
    (e0 : hI g (13, m, 0) 0 = (v : Int)) (el : hI g (13, m, 0) 1 = 0) (ev : ∀ f : Nat, f < 46 → ¬ Z 5 (48 * (24 * s + v) + f) = -1 → hI g (13, m, 1) f = zrwV Z s v f) (eb : ∀ i, hI g (13, m, 2) i = 0) :
    SIMq A 9 (sI (sR g (3, 3, 0) m (some (9, m, 0))) (3, 0, 0) 8 ((m : Int) + 1)) (zRow Z s v) (c + 1) ∧ Fr nMo h (sI (sR g (3, 3, 0) m (some (9, m, 0))) (3, 0, 0) 8 ((m : Int) + 1)) := by
  have zz := S.zz
  have nz := N.2.2 m hm (by omega)
  have y19 := zRow_19 (Z := Z) (t := s) (v := v)
  have y20 := fun x => zRow_20 (Z := Z) (t := s) (v := v) (x := x) em
  have y21 := fun x => zRow_21 (Z := Z) (t := s) (v := v) (x := x) em
  have y22 := fun x f (hf : f < 48) => zRow_22 (Z := Z) (t := s) (v := v) (x := x) em hf
  have y26 := fun x => zRow_26 (Z := Z) (t := s) (v := v) (x := x) S hc em
  have y27 := zRow_27 (t := s) (v := v) S hc
  have ya : ∀ {j}, roj j = false → zRow Z s v j = Z j := zRow_o
  generalize zRow Z s v = Y at *
  have oj : ∀ {p : Nat → Bool}, p 19 = false → p 20 = false → p 21 = false → p 22 = false → p 26 = false → p 27 = false → p 48 = false → ∀ j, p j = true → Y j = Z j := fun h1 h2 h3 h4 h5 h6 h7 j hj => ya (by
    unfold roj
    simp only [Bool.or_eq_false_iff, beq_eq_false_iff_ne]
    refine ⟨⟨⟨⟨⟨⟨?_, ?_⟩, ?_⟩, ?_⟩, ?_⟩, ?_⟩, ?_⟩ <;> (rintro rfl; simp_all))
  have rO : ∀ x i, ¬ x = 3 → hR (sI (sR g (3, 3, 0) m (some (9, m, 0))) (3, 0, 0) 8 ((m : Int) + 1)) (3, x, 0) i = hR h (3, x, 0) i := fun x i hx => by
    rw [← F.R (n := (3, x, 0)) ⟨by simp, by simp⟩]
    simp [hR_sI, hR_sR, hx]
  have r4 : ∀ i, hR (sI (sR g (3, 3, 0) m (some (9, m, 0))) (3, 0, 0) 8 ((m : Int) + 1)) (3, 3, 0) i = if i = m then some (9, m, 0) else hR h (3, 3, 0) i := fun i => by
    rw [← F.R (n := (3, 3, 0)) ⟨by simp, by simp⟩]
    simp [hR_sI, hR_sR]
  have i0 : ∀ j, ¬ j = 8 → hI (sI (sR g (3, 3, 0) m (some (9, m, 0))) (3, 0, 0) 8 ((m : Int) + 1)) (3, 0, 0) j = hI h (3, 0, 0) j := fun j hj => by
    rw [hI_m hj rfl, hI_sR, F.I ⟨by simp, by simp⟩]
  have i9 : hI (sI (sR g (3, 3, 0) m (some (9, m, 0))) (3, 0, 0) 8 ((m : Int) + 1)) (3, 0, 0) 8 = (m : Int) + 1 := hI_e rfl rfl
  have tg : hT (sI (sR g (3, 3, 0) m (some (9, m, 0))) (3, 0, 0) 8 ((m : Int) + 1)) = hT g := rfl
  have Fg : Fr (fun n => ¬ n.1 = 3) g (sI (sR g (3, 3, 0) m (some (9, m, 0))) (3, 0, 0) 8 ((m : Int) + 1)) := (Fr.rf.wR (fun z => z rfl)).wI (fun z => z rfl)
  have FG : Fr (fun n => (¬ n = (9, m, 0) ∧ ¬ (n.1 = 13 ∧ n.2.1 = m)) ∧ ¬ n.1 = 3) h (sI (sR g (3, 3, 0) m (some (9, m, 0))) (3, 0, 0) 8 ((m : Int) + 1)) := (F.mo (fun n z => z.1)).tr (Fg.mo (fun n z => z.2))
  generalize sI (sR g (3, 3, 0) m (some (9, m, 0))) (3, 0, 0) 8 ((m : Int) + 1) = G at *
  have Fe : Fr (nEx Z) h G := FG.mo (fun n z => by
    refine ⟨⟨fun w => ?_, fun w => ?_⟩, fun w => ?_⟩
    · rw [w] at z; unfold nEx at z; simp at z; omega
    · unfold nEx at z; omega
    · unfold nEx at z; omega)
  obtain ⟨e1, e2, e3, e4, e5⟩ := S.ext (Y := Y) Fe (oj rfl rfl rfl rfl rfl rfl rfl)
    (fun k hk => ⟨by rw [ya (j := 14) rfl], by rw [ya (j := 15) rfl], by rw [ya (j := 16) rfl], fun f _ => ⟨by rw [ya (j := 17) rfl], by rw [ya (j := 18) rfl]⟩⟩)
    (fun x hx => ⟨by rw [y20, if_neg (by omega)], by rw [y26, if_neg (by omega)], ⟨by rw [y21, if_neg (by omega)], by rw [ya (j := 23) rfl], fun f hf => by rw [y22 x f hf, if_neg (by omega)], fun _ _ => by rw [ya (j := 24) rfl], fun _ _ => by rw [ya (j := 25) rfl]⟩⟩)
    (by omega) (by omega) (fun x hx => ⟨by rw [ya (j := 29) rfl], by rw [ya (j := 30) rfl], by rw [ya (j := 31) rfl]⟩)
  have kk := S.2.2.2.2.2.2
  obtain ⟨⟨t1, t2, t3, t4, t6, t5⟩, ⟨f1, f2, f3, f4, f5, f6⟩, -⟩ := S
  have z32 := t2.2.2.2.2.1
  rw [t3.2.2.2.2] at z32
  have gm : RR A G Y m := by
    unfold RR
    have p9 : hI G (9, m, 0) 2 = -1 := by rw [Fg.I (by simp)]; exact e92
    rw [y20, y26, ya (j := 0) rfl, ya (j := 32) rfl, ya (j := 34) rfl, if_pos rfl, if_pos rfl, Int.toNat_natCast, p9, y27]
    refine ⟨W9.f Fg (by simp), ⟨by omega, hs⟩, ⟨⟨?_, ?_, ?_⟩, ?_⟩, ⟨by omega, by omega⟩, Int.le_refl _, ?_, fun z => absurd z (by decide)⟩
    · rw [Fg.I (by simp), y21, if_pos rfl]; exact e0
    · rw [y21, if_pos rfl]; omega
    · rw [y21, if_pos rfl, ya (j := 1) rfl]; exact hv
    · unfold RWx
      rw [y21, if_pos rfl, Int.toNat_natCast, ya (j := 23) rfl, nz.1]
      refine ⟨V13.f Fg (fun j => by simp), by rw [Fg.I (by simp)]; exact el, fun f hf z => ?_, fun w hw => ?_⟩
      · rw [ya (j := 5) rfl] at z
        rw [y22 m f (by omega), if_pos rfl, Fg.I (by simp)]; exact ev f hf z
      · unfold RB1
        have n24 := nz.2 w hw
        rw [ya (j := 24) rfl, n24, Fg.I (by simp), Fg.I (by simp), eb, eb]
        exact ⟨by omega, rfl, rfl, fun z => absurd z (by decide), fun z => absurd z (by decide), fun _ => rfl⟩
    · intro k hk hk2
      rw [ya (j := 32) rfl] at hk
      rw [ya (j := 34) rfl] at hk2
      have := (kk k hk).2.1
      omega
  refine ⟨⟨⟨?_, ?_, ?_, t4.f FG (fun j => ⟨⟨by simp, by simp⟩, by simp⟩), ?_, ?_⟩, ⟨?_, ?_, ?_, ?_, ?_, ?_⟩, ?_, ?_, ?_, ?_, ?_⟩, FG.mo (fun n z => by
    refine ⟨⟨fun w => ?_, fun w => ?_⟩, fun w => ?_⟩
    · rw [w] at z; rcases z with z | z <;> simp at z
    · rcases z with z | z <;> omega
    · rcases z with z | z <;> omega)⟩
  · have p3 : ∀ j, hT G (3, j, 0) = hT h (3, j, 0) := fun j => by rw [tg, F.T ⟨by simp, by simp⟩]
    unfold FmW at *
    rw [p3, p3, p3, p3, p3, p3, rO 0 0 (by decide), rO 0 1 (by decide), rO 0 2 (by decide), rO 0 3 (by decide), rO 0 4 (by decide), rO 0 5 (by decide)]
    exact t1
  · exact ⟨fc.keep (L := 4) t2.1 (i0 _ (by decide)) (fun i => rO _ i (by decide)), fc.keep (L := 8) t2.2.1 (i0 _ (by decide)) (fun i => rO _ i (by decide)), fc.inc (L := 20) t2.2.2.1 (t3.2.2.1.trans em) (by omega) i9 r4, fc.keep (L := 8) t2.2.2.2.1 (i0 _ (by decide)) (fun i => rO _ i (by decide)), fc.keep (L := 512) t2.2.2.2.2 (i0 _ (by decide)) (fun i => rO _ i (by decide))⟩
  · rw [i0 6 (by decide), i0 7 (by decide), i9, i0 9 (by decide), i0 10 (by decide), y19, em, ya (j := 0) rfl, ya (j := 13) rfl, ya (j := 28) rfl, ya (j := 32) rfl]
    exact ⟨t3.1, t3.2.1, rfl, t3.2.2.2⟩
  · intro s' h1
    rw [ya (j := 0) rfl] at h1
    rw [Fe.I (n := (4, s', 0)) (Or.inl rfl)]; exact t6 s' h1
  · rw [y27, ya (j := 32) rfl]; omega
  · intro s' i h1 h2
    rw [ya (j := 0) rfl] at h2
    rw [FG.T (by simp)]; exact f1 s' i h1 h2
  · intro s' v h1 h3 h2
    rw [ya (j := 0) rfl, ya (j := 1) rfl] at h2
    rw [FG.T (by simp), FG.T (by simp), FG.T (by simp)]; exact f2 s' v h1 h3 h2
  · intro k h1
    rw [ya (j := 13) rfl] at h1
    rw [FG.T (by simp)]; exact f3 k h1
  · intro r h1
    rw [y19] at h1
    have hne : ¬ r = m := by omega
    obtain ⟨z1, z2⟩ := f4 r (by omega)
    rw [FG.T (by simp [hne])]
    exact ⟨z1, fun i => by rw [FG.T (by simp [hne])]; exact z2 i⟩
  · intro x h1
    rw [ya (j := 28) rfl] at h1
    rw [FG.T (by simp)]; exact f5 x h1
  · intro k h1
    rw [ya (j := 32) rfl] at h1
    rw [FG.T (by simp)]
    exact ⟨(f6 k h1).1, fun i => by rw [FG.T (by simp)]; exact (f6 k h1).2 i⟩
  · rw [ya (j := 0) rfl]; exact e1
  · rw [ya (j := 13) rfl]; exact e2
  · intro x h1
    rw [y19] at h1
    by_cases z : x = m
    · subst z; exact gm
    · exact e3 x (by omega)
  · rw [ya (j := 28) rfl]; exact e4
  · rw [ya (j := 32) rfl]; exact e5
end J2

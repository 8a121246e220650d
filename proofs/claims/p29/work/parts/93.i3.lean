/-! ===== the face: read, write ===== -/
section I3
variable {Q : AH → AO → Prop} {h g G : AH} {Z Y X : ZT} {c q s a b r x : Nat} {A : Nat → Nat}
/-- one value of a state -/
theorem RW.set {F x : Int} (R : RW h Z s a b q) (hF : 0 ≤ F ∧ F < 46) : RW (cpt h a b F x) (zs Z 22 (48 * q + F.toNat) x) s a b q := by
  obtain ⟨⟨p1, p2, p3⟩, q1, q2, q3, q4⟩ := R
  have z22 : ∀ f : Nat, f < 48 → zs Z 22 (48 * q + F.toNat) x 22 (48 * q + f) = if (f : Int) = F then x else Z 22 (48 * q + f) := fun f hf => by
    by_cases z : (f : Int) = F
    · rw [if_pos z, zs_eq (by omega) rfl]
    · rw [if_neg z, zs_miss (by omega) rfl]
  refine ⟨⟨by rw [cpt_o (by decide)]; exact p1, p2, p3⟩, ?_, by rw [cpt_o (by decide)]; exact q2, ?_, ?_⟩
  · unfold cpt; split <;> exact q1
  · unfold RVl at q3 ⊢
    intro f hf hp
    rw [z22 f (by omega), cpt_1 hf (by omega)]
    have hp : ¬ Z 5 (48 * (24 * s + (Z 21 q).toNat) + f) = -1 := hp
    by_cases z : (f : Int) = F
    · rw [if_pos z, if_pos z]
    · rw [if_neg z, if_neg z]; exact q3 f hf hp
  · intro w hw
    exact RB1.c (q4 w hw) (cpt_o (by decide)) (cpt_o (by decide)) (fun j _ => cpt_o (by decide)) rfl rfl rfl (fun _ _ => rfl)
/-- a row written -/
theorem X_wri {s : Nat} {v vr x F : Int} {g1 g2 : AH} (S : SIMq A 9 h Z c) (BZ : BB Z) (hc : c < 512) (hr : (r : Int) < Z 19 0) (es : (Z 20 r).toNat = s) (evr : Z 21 r = vr) (F1 : Fr (nOf s 12 0) h g1) (R1 : RW g1 (zsee (zs Z 48 0 0) r v) s 12 0 20) (hF : 0 ≤ F ∧ F < 46) (hv : 0 ≤ v ∧ v ≤ 23)
    (F2 : Fr (nOf s 12 0) (cpt g1 12 0 F x) g2) (V2 : SV g2 Z s) (R2 : RW g2 (zmt (zs (zsee (zs Z 48 0 0) r v) 22 (48 * 20 + F.toNat) x) ((20 : Nat) : Int) s vr) s 12 0 20) :
    SIMq A 9 (sI (ccp g2 13 r 12 0) (9, r, 0) 2 (-1)) (zcnt (zcpy (zmt (zs (zsee (zs Z 48 0 0) r v) 22 (48 * 20 + F.toNat) x) ((20 : Nat) : Int) s vr) 20 r) (r : Int)) (c + 1) ∧ Fr nMo h (sI (ccp g2 13 r 12 0) (9, r, 0) 2 (-1)) := by
  have z19 := S.c19
  have Rr := S.2.2.2.2.1 r hr
  obtain ⟨RWr, r2, R3, r4, r5, r6, r7⟩ := Rr
  have r3 := R3.1
  have V13 := R3.2.1
  obtain ⟨S1, K, -⟩ := S.sc (s := s) (by omega)
  have b1 := K.b1
  rw [es] at r3
  have Fc : Fr (nOf s 12 0) g1 (cpt g1 12 0 F x) := Fr.rf.kpt (fun j z => z.1 ⟨rfl, rfl⟩)
  have F3 : Fr (nOf s 12 0) h g2 := (F1.tr Fc).tr F2
  have q13 : ∀ j, nOf s 12 0 (13, r, j) := fun j => ⟨fun w => absurd w.1 (by simp), fun w => absurd w.1 (by simp)⟩
  have V13' : StaW g2 13 r := V13.f F3 q13
  have F4 : Fr (nRw s r) h (sI (ccp g2 13 r 12 0) (9, r, 0) 2 (-1)) := (F3.nR).tr ((Fr.rf.kccp (fun j z => z.2.1 ⟨rfl, rfl⟩)).wI (fun z => z.2.2.1 rfl))
  have eT : hT (sI (ccp g2 13 r 12 0) (9, r, 0) 2 (-1)) = hT g2 := rfl
  have eR : hR (sI (ccp g2 13 r 12 0) (9, r, 0) 2 (-1)) = hR g2 := rfl
  -- the model's rows
  generalize eY1 : zmt (zs (zsee (zs Z 48 0 0) r v) 22 (48 * 20 + F.toNat) x) ((20 : Nat) : Int) s vr = Y1 at *
  have y1o : ∀ j, (j != 20 && offR j) = true → Y1 j = zs Z 48 0 0 j := fun j hj => by
    have hj2 : offR j = true := by rw [Bool.and_eq_true] at hj; exact hj.2
    have h22 : ¬ j = 22 := fun e => by subst e; exact absurd hj2 (by decide)
    rw [← eY1, zmt_o hj2, zs_oj (beq_ne h22), zsee_o hj]
  have w27 : ∀ Y : ZT, Y 27 0 = Z 27 0 → wr (Y 27 0 + 1) = Z 27 0 + 1 := fun Y e => zcnt_27 S hc e
  have c27 : zcpy Y1 20 r 27 0 = Z 27 0 := by rw [zcpy_o rfl, y1o 27 rfl]; rfl
  have y27 : zcnt (zcpy Y1 20 r) (r : Int) 27 0 = Z 27 0 + 1 := by unfold zcnt; rw [w27 _ c27]; exact zs_ne rfl (zs_eq rfl rfl)
  have y26 : zcnt (zcpy Y1 20 r) (r : Int) 26 r = Z 27 0 + 1 := by unfold zcnt; rw [w27 _ c27, Int.toNat_natCast]; exact zs_eq rfl rfl
  have y26x : ∀ q : Nat, ¬ q = r → zcnt (zcpy Y1 20 r) (r : Int) 26 q = Z 26 q := fun q hq => by
    unfold zcnt
    rw [Int.toNat_natCast]
    refine zs_miss hq (zs_ne rfl ?_)
    rw [zcpy_o rfl, y1o 26 rfl]; rfl
  have yc : ∀ j, ¬ j = 26 → ¬ j = 27 → zcnt (zcpy Y1 20 r) (r : Int) j = zcpy Y1 20 r j := fun j h26 h27 => by unfold zcnt; rw [zs_oj (beq_ne h26), zs_oj (beq_ne h27)]
  have yo : ∀ j, rwj j = false → zcnt (zcpy Y1 20 r) (r : Int) j = Z j := fun j hj => by
    have hne : ∀ k, rwj k = true → ¬ j = k := fun k hk e => by rw [e, hk] at hj; exact absurd hj (by decide)
    have hof : (j != 20 && offR j) = true := by
      unfold offR
      simp [hne 20 rfl, hne 21 rfl, hne 22 rfl, hne 23 rfl, hne 24 rfl, hne 25 rfl]
    rw [yc j (hne 26 rfl) (hne 27 rfl), zcpy_o hof, y1o j hof, zs_oj (beq_ne (hne 48 rfl))]
  have y1x : ∀ x' : Nat, x' < 20 → Y1 20 x' = Z 20 x' ∧ zRw Y1 Z x' := fun x' hx => by
    have a1 : zRw (zsee (zs Z 48 0 0) r v) (zs Z 48 0 0) x' := zsee_x (BB_zs rfl BZ) (by omega) hv (by have : zs Z 48 0 0 21 r = Z 21 r := rfl; rw [this]; omega)
    have a0 : zRw (zs Z 48 0 0) Z x' := zRw.o rfl
    have a2 : zRw (zs (zsee (zs Z 48 0 0) r v) 22 (48 * 20 + F.toNat) x) (zsee (zs Z 48 0 0) r v) x' := zRw.z22 (fun f hf => by omega)
    have a3 : zRw Y1 (zs (zsee (zs Z 48 0 0) r v) 22 (48 * 20 + F.toNat) x) x' := by
      rw [← eY1]
      refine zRw.mt (q := 20) (BB_zs rfl (BB_c (zsee_o rfl) (zsee_o rfl) (BB_zs rfl BZ))) (by omega) (by omega) ?_
      have : zs (zsee (zs Z 48 0 0) r v) 22 (48 * 20 + F.toNat) x 21 20 = v := (zs_ne rfl (zsee_21 (Z := zs Z 48 0 0) (r := r) (v := v)))
      rw [this]; exact hv
    refine ⟨?_, ((a0.tr a1).tr a2).tr a3⟩
    rw [← eY1, zmt_o rfl]
    exact zs_ne rfl (zsee_20x (by omega))
  have y20 : Y1 20 20 = Z 20 r := by
    rw [← eY1, zmt_o rfl]
    refine zs_ne rfl ?_
    unfold zsee
    rw [zmt_o rfl, Int.toNat_natCast]
    exact zcpy_20
  have R5 := R2.cpy (a' := 13) (b' := r) (q' := r) V13' (by decide)
  have sv : zSv (zcnt (zcpy Y1 20 r) (r : Int)) Z := fun j hj => yo j (by
    simp only [Bool.or_eq_true, beq_iff_eq] at hj
    rcases hj with ((((((((h | h) | h) | h) | h) | h) | h) | h) | h) | h <;> subst h <;> rfl)
  have q12 : StaW g2 12 0 := R2.2.1
  refine ⟨?_, ?_⟩
  · refine S.rw F4 (by omega) hr q12 V2.1 yo (fun x' hx => ?_) (by rw [y27]; have := S.1.2.2.2.2.2; omega) (by omega) ?_
    · obtain ⟨u0, u1⟩ := y1x x' hx
      by_cases z : x' = r
      · subst z
        refine ⟨?_, fun w => absurd rfl w⟩
        rw [yc 20 (by decide) (by decide), (zcpy_n (Z := Y1) (q := 20) (q' := x')).1, y20]
      · refine ⟨?_, fun _ => ⟨y26x x' z, ?_⟩⟩
        · rw [yc 20 (by decide) (by decide), (zcpy_x z).1, u0]
        · refine u1.tr ((zRw.cy z).tr (zRw.fn (fun j hj => yc j (fun e => by subst e; exact absurd hj (by decide)) (fun e => by subst e; exact absurd hj (by decide)))))
    · have y20r : zcnt (zcpy Y1 20 r) (r : Int) 20 r = Z 20 r := by rw [yc 20 (by decide) (by decide), (zcpy_n (Z := Y1) (q := 20) (q' := r)).1, y20]
      have g9 : hI (sI (ccp g2 13 r 12 0) (9, r, 0) 2 (-1)) (9, r, 0) 2 = -1 := hI_e rfl rfl
      unfold RR
      rw [y20r, yo 0 rfl, yo 32 rfl, yo 34 rfl, y26, y27, g9, es]
      refine ⟨?_, by omega, ?_, ⟨by omega, by omega⟩, Int.le_refl _, ?_, fun z => absurd z (by decide)⟩
      · rw [es] at RWr
        have q9 : nOf s 12 0 (9, r, 0) := ⟨fun w => absurd w.1 (by simp), fun w => absurd w.1 (by simp)⟩
        exact (show RowW g2 r s from RWr.f F3 q9)
      · have R6 : RW (ccp g2 13 r 12 0) (zcnt (zcpy Y1 20 r) (r : Int)) s 13 r r := R5.zc (by rw [yc 1 (by decide) (by decide)]) (yc 5 (by decide) (by decide)) (yc 7 (by decide) (by decide)) (by rw [yc 21 (by decide) (by decide)]) (fun _ _ => by rw [yc 22 (by decide) (by decide)]) (by rw [yc 23 (by decide) (by decide)]) (fun _ _ => by rw [yc 24 (by decide) (by decide)]) (fun _ _ => by rw [yc 25 (by decide) (by decide)])
        exact R6.f (P := fun n => ¬ n = (9, r, 0)) (Fr.rf.wI (fun z => z rfl)) (fun j => by simp)
      · intro k hk hk2
        rw [yo 32 rfl] at hk
        rw [yo 35 rfl]
        have := (S.2.2.2.2.2.2 k hk).2.2.2.2.2.2.1
        constructor
        · intro z; omega
        · intro z; omega
  · exact (F3.mo nOf_mo).tr ((Fr.rf.kccp (fun j z => by rcases z with z | z <;> simp at z)).wI (fun z => by rcases z with z | z <;> simp at z))
theorem zsee_sv {v : Int} : zSv (zsee (zs Z 48 0 0) r v) Z := fun j hj => by
  rw [zsee_o (by
    simp only [Bool.or_eq_true, beq_iff_eq] at hj
    rcases hj with ((((((((h | h) | h) | h) | h) | h) | h) | h) | h) | h <;> subst h <;> rfl)]
  exact zs_oj (beq_ne (fun e => by subst e; exact absurd hj (by decide)))
theorem K2 (S : SIMq A 9 h Z c) (hr : (r : Int) < Z 19 0) : ZS Z (Z 20 r).toNat := by
  have r2 := (S.2.2.2.2.1 r hr).2.1
  exact (S.sc (s := (Z 20 r).toNat) (by omega)).2.1
end I3

/-! ===== the face: value, replayed, standing, set ===== -/
section I1
variable {Q : AH → AO → Prop} {h g G : AH} {Z Y X : ZT} {c q s a b r x : Nat} {A : Nat → Nat}
theorem zRw.rf : zRw Z Z x := ⟨rfl, rfl, fun _ _ => rfl, fun _ _ => rfl, fun _ _ => rfl⟩
theorem zRw.tr (k : zRw Y Z x) (k2 : zRw X Y x) : zRw X Z x := ⟨k2.1.trans k.1, k2.2.1.trans k.2.1, fun f hf => (k2.2.2.1 f hf).trans (k.2.2.1 f hf), fun f hf => (k2.2.2.2.1 f hf).trans (k.2.2.2.1 f hf), fun f hf => (k2.2.2.2.2 f hf).trans (k.2.2.2.2 f hf)⟩
theorem zRw.fn (e : ∀ j, (j == 21 || j == 22 || j == 23 || j == 24 || j == 25) = true → Y j = Z j) : zRw Y Z x := ⟨by rw [e 21 rfl], by rw [e 23 rfl], fun _ _ => by rw [e 22 rfl], fun _ _ => by rw [e 24 rfl], fun _ _ => by rw [e 25 rfl]⟩
theorem zRw.o {j i : Nat} {v : Int} (hj : (j == 21 || j == 22 || j == 23 || j == 24 || j == 25) = false) : zRw (zs Z j i v) Z x := zRw.fn (fun j' h' => zs_oj (by
  cases q : Nat.beq j' j with
  | false => rfl
  | true => rw [Nat.eq_of_beq_eq_true q, hj] at h'; exact absurd h' (by decide)))
theorem zRw.z21 {i : Nat} {v : Int} (hi : ¬ i = x) : zRw (zs Z 21 i v) Z x := ⟨zs_miss (Ne.symm hi) rfl, rfl, fun _ _ => rfl, fun _ _ => rfl, fun _ _ => rfl⟩
theorem zRw.z23 {i : Nat} {v : Int} (hi : ¬ i = x) : zRw (zs Z 23 i v) Z x := ⟨rfl, zs_miss (Ne.symm hi) rfl, fun _ _ => rfl, fun _ _ => rfl, fun _ _ => rfl⟩
theorem zRw.z22 {i : Nat} {v : Int} (hi : ∀ f : Nat, f < 48 → ¬ i = 48 * x + f) : zRw (zs Z 22 i v) Z x := ⟨rfl, rfl, fun f hf => zs_miss (Ne.symm (hi f hf)) rfl, fun _ _ => rfl, fun _ _ => rfl⟩
theorem zRw.z24 {i : Nat} {v : Int} (hi : ∀ f : Nat, f < 24 → ¬ i = 24 * x + f) : zRw (zs Z 24 i v) Z x := ⟨rfl, rfl, fun _ _ => rfl, fun f hf => zs_miss (Ne.symm (hi f hf)) rfl, fun _ _ => rfl⟩
theorem zRw.z25 {i : Nat} {v : Int} (hi : ∀ f : Nat, f < 48 → ¬ i = 48 * x + f) : zRw (zs Z 25 i v) Z x := ⟨rfl, rfl, fun _ _ => rfl, fun _ _ => rfl, fun f hf => zs_miss (Ne.symm (hi f hf)) rfl⟩
theorem zRw.zvv {f v : Int} (hq : ¬ q = x) (hf : -1 ≤ f ∧ f < 48) : zRw (zv Z q f v) Z x := by
  unfold zv; split
  · exact zRw.rf
  · exact zRw.z22 (fun f' hf' => by omega)
theorem zRw.mv {v u s : Int} (B : BB Z) (hq : ¬ q = x) (hv : 1 ≤ v ∧ v ≤ 23) : zRw (zmv Z q s v u) Z x := by
  unfold zmv
  dsimp only
  have c : ∀ l0 l1 g0 g1, zRw (zmvC Z q s v (24 * (q : Int) + v) u l0 l1 g0 g1).1 Z x := by
    intro l0 l1 g0 g1
    unfold zmvC
    by_cases c1 : Z 24 (24 * (q : Int) + v).toNat = (if u = 0 then 1 else 2)
    · rw [if_pos c1]
      by_cases c2 : zbk Z s v (24 * (q : Int) + v) u l0 l1
      · rw [if_pos c2]; exact zRw.z24 (fun f hf => by omega)
      · rw [if_neg c2]; exact (zRw.z24 (fun f hf => by omega)).tr (zRw.z23 (by omega))
    · rw [if_neg c1]; exact zRw.rf
  have d : ∀ (Y : ZT) l0 l1 r0 r1, zRw (zmvD Y s v (24 * (q : Int) + v) u l0 l1 r0 r1) Y x := by
    intro Y l0 l1 r0 r1
    unfold zmvD
    split
    · exact zRw.rf
    · exact ((zRw.z24 (fun f hf => by omega)).tr (zRw.z25 (fun f hf => by omega))).tr (zRw.z25 (fun f hf => by omega))
  have e : ∀ (Y : ZT) r0 r1, BB Y → zRw (zmvE Y q v u s r0 r1) Y x := by
    intro Y r0 r1 BY
    unfold zmvE
    have rg := fun p u j => zon_rng BY (p := p) (u := u) (j := j)
    exact ((((zRw.zvv hq (rg _ _ _)).tr (zRw.zvv hq (rg _ _ _))).tr (zRw.zvv hq (rg _ _ _))).tr (zRw.zvv hq (rg _ _ _))).tr (zRw.z21 (by omega))
  refine ((c _ _ _ _).tr (d _ _ _ _ _)).tr (e _ _ _ ?_)
  exact BB_c (by rw [zmvD_o rfl rfl, zmvC_o rfl rfl]) (by rw [zmvD_o rfl rfl, zmvC_o rfl rfl]) B
theorem zRw.mt {v s : Int} (B : BB Z) (hq : ¬ q = x) (hv : 0 ≤ v ∧ v ≤ 23) (h2 : 0 ≤ Z 21 q ∧ Z 21 q ≤ 23) : zRw (zmt Z q s v) Z x := by
  unfold zmt
  rw [Int.toNat_natCast]
  have u : ∀ n : Nat, Z 21 q + n ≤ 23 → zRw (zmtU Z q s n) Z x := by
    intro n
    induction n with
    | zero => intro _; exact zRw.rf
    | succ n ih =>
      intro hn
      rw [zmtU_s, Int.toNat_natCast]
      exact (ih (by omega)).tr (zRw.mv (BB_c (zmtU_o rfl n) (zmtU_o rfl n) B) hq (by omega))
  have u21 : zmtU Z q s (v - Z 21 q).toNat 21 q = Z 21 q + ((v - Z 21 q).toNat : Int) := zmtU_21 (r := (q : Int)) _
  have d : ∀ n : Nat, (n : Int) ≤ Z 21 q - v → zRw (zmtD (zmtU Z q s (v - Z 21 q).toNat) q s n) Z x := by
    intro n
    induction n with
    | zero => intro _; exact u _ (by omega)
    | succ n ih =>
      intro hn
      rw [zmtD_s, Int.toNat_natCast]
      exact (ih (by omega)).tr (zRw.mv (BB_c ((zmtD_o rfl n).trans (zmtU_o rfl _)) ((zmtD_o rfl n).trans (zmtU_o rfl _)) B) hq (by rw [u21]; omega))
  by_cases c : v ≤ Z 21 q
  · exact d _ (by omega)
  · rw [show (Z 21 q - v).toNat = 0 by omega]
    exact u _ (by omega)
theorem zRw.cy {q' : Nat} (hx : ¬ x = q') : zRw (zcpy Z q q') Z x := by
  obtain ⟨-, e1, e2, e3, e4, e5⟩ := zcpy_x (Z := Z) (q := q) hx
  exact ⟨e1, e2, e3, e4, e5⟩
/-- a row that the call leaves alone -/
theorem RR.f3 {P : Nm → Prop} (F : Fr P h g) (h9 : P (9, r, 0)) (h13 : ∀ j, P (13, r, j)) (h14 : ∀ k j, P (14, k, j)) (y20 : Y 20 r = Z 20 r) (y26 : Y 26 r = Z 26 r) (y : zRw Y Z r) (a27 : Z 27 0 ≤ Y 27 0) (sv : zSv Y Z) (o0 : Y 0 = Z 0) (o32 : Y 32 = Z 32) (o34 : Y 34 = Z 34) (o35 : Y 35 = Z 35) (R : RR A h Z r) : RR A g Y r := by
  obtain ⟨r1, r2, r3, r4, r5, r6, r7⟩ := R
  obtain ⟨y21, y23, y22, y24, y25⟩ := y
  unfold RR
  rw [y20, y26, o0, o32, o34, F.I h9]
  exact ⟨r1.f F h9, r2, (r3.zc (by rw [sv 1 rfl]) (sv 5 rfl) (sv 7 rfl) y21 y22 y23 y24 y25).f F h13, r4, by omega, LL.cc (by rw [o32]) o34 o35 r6, fun w => ⟨(r7 w).1, (r7 w).2.f F h13 (h14 _) sv.sc⟩⟩
theorem zsee_w {v : Int} : ∀ j, rwj j = false → zsee Z r v j = Z j := fun j hj => zsee_o (by
  unfold rwj at hj
  unfold offR
  simp only [Bool.or_eq_false_iff, beq_eq_false_iff_ne] at hj
  obtain ⟨⟨⟨⟨⟨⟨⟨⟨⟨⟨⟨h1, h2⟩, h3⟩, h4⟩, h5⟩, h6⟩, h7⟩, h8⟩, h9⟩, h10⟩, h11⟩, h12⟩ := hj
  simp [h1, h2, h3, h4, h5, h6])
theorem zsee_20x {v : Int} (hx : ¬ x = 20) : zsee Z r v 20 x = Z 20 x := by
  unfold zsee
  rw [zmt_o rfl]
  exact (zcpy_x hx).1
theorem zsee_x {v : Int} (B : BB Z) (hx : ¬ x = 20) (hv : 0 ≤ v ∧ v ≤ 23) (h2 : 0 ≤ Z 21 r ∧ Z 21 r ≤ 23) : zRw (zsee Z r v) Z x := by
  unfold zsee
  rw [Int.toNat_natCast]
  exact (zRw.cy hx).tr (zRw.mt (q := 20) (BB_c (zcpy_o rfl) (zcpy_o rfl) B) (fun z => hx z.symm) hv (by rw [zcpy_21]; exact h2))
theorem Fr.nR {s : Nat} (F : Fr (nOf s 12 0) h g) : Fr (nRw s r) h g := F.mo (fun n z => ⟨fun w => z.1 w.1, z.2.2.2⟩)
theorem nOf_mo {s : Nat} : ∀ n, nMo n → nOf s 12 0 n := fun n z => ⟨fun w => by rcases z with z | z <;> omega, fun w => by have := w.1; rcases z with z | z <;> omega⟩
/-- a row was seen -/
theorem X_see {s : Nat} {v : Int} (S : SIMq A 9 h Z c) (B : BB Z) (hr : (r : Int) < Z 19 0) (es : (Z 20 r).toNat = s) (F : Fr (nOf s 12 0) h g) (V : SV g Z s) (R : RW g (zsee Z r v) s 12 0 20) (hv : 0 ≤ v ∧ v ≤ 23) : SIMq A 9 g (zsee Z r v) c := by
  have z19 := S.c19
  have Rr := S.2.2.2.2.1 r hr
  have r2 := Rr.2.1
  have r3 := Rr.2.2.1.1
  obtain ⟨S1, K, -⟩ := S.sc (s := s) (by omega)
  have b1 := K.b1
  rw [es] at r3
  have sv : zSv (zsee Z r v) Z := fun j hj => zsee_o (by
    simp only [Bool.or_eq_true, beq_iff_eq] at hj
    rcases hj with ((((((((h | h) | h) | h) | h) | h) | h) | h) | h) | h <;> subst h <;> rfl)
  have yx : ∀ x : Nat, x < 20 → zRw (zsee Z r v) Z x := fun x hx => zsee_x B (by omega) hv (by omega)
  have F2 : Fr (nRw s r) h g := F.nR
  have F3 : ∀ y z : Nat, ∀ x, ¬ x = 4 → ¬ x = 12 → nOf s 12 0 (x, y, z) := fun y z x e4 e12 => ⟨fun w => e12 w.1, fun w => e4 w.1⟩
  refine S.rw F2 (by omega) hr R.2.1 V.1 zsee_w (fun x hx => ⟨zsee_20x (by omega), fun _ => ⟨by rw [zsee_o rfl], yx x hx⟩⟩) ⟨by rw [zsee_o rfl]; exact Int.le_refl _, by rw [zsee_o rfl]; exact S.1.2.2.2.2.2.1⟩ (Nat.le_refl _) ?_
  exact Rr.f3 F (F3 _ _ _ (by decide) (by decide)) (fun _ => F3 _ _ _ (by decide) (by decide)) (fun _ _ => F3 _ _ _ (by decide) (by decide)) (zsee_20x (by omega)) (by rw [zsee_o rfl]) (yx r (by omega)) (by rw [zsee_o rfl]; exact Int.le_refl _) sv (zsee_o rfl) (zsee_o rfl) (zsee_o rfl) (zsee_o rfl)
theorem kX7_fieldAtE {s : Nat} {v n F : Int} (W : SchW h s) (B : SB h s) (e : cfn h s v n = F) (hF : ¬ F = -1) (k : Q h (.inl (some (vi F)))) : AC mX7_fieldAt fX7_fieldAt loX7_fieldAt 1 6 h [vr (4, s, 0), vi v, vi n] Q := by
  subst e
  exact kX7_fieldAt W B (fun z => absurd z hF) (fun _ => k)
set_option maxHeartbeats 1000000 in
theorem sX7_value {r v n : Int} (S : SIM h Z c) (B : ZB Z) (k1 : zcVal Z r v n = -1 → Q h (.inr eIx))
    (k0 : ¬ zcVal Z r v n = -1 → ∀ g, SIM g (zsee (zs Z 48 0 0) r v) c → Fr nMo h g → Q g (.inl (some (vi (zsee (zs Z 48 0 0) r v 22 (960 + zcVal Z r v n).toNat))))) : AC mX7_value fX7_value loX7_value 4 24 h [vr mF, vi r, vi v, vi n] Q := by
  obtain ⟨A, S⟩ := S
  have W := S.1.1
  have C := S.1.2.1
  have eC := S.1.2.2.1.2.2.1
  have zz := S.zz
  have z19 := S.c19
  refine AC.mk (by decide) (Nat.le_of_ble_eq_true rfl) ?_
  by_cases hr : ¬ (0 ≤ r ∧ r < Z 19 0)
  · have e1 : zcVal Z r v n = -1 := by unfold zcVal; rw [if_neg (fun z => hr ⟨z.1.1, by omega⟩)]
    refine AW.aload_n dX7_value_0 rfl ?_
    refine AW.iload_n dX7_value_1 rfl ?_
    refine AW.callV (as := [vi _]) dX7_value_2 rfl rfl rfl okX7_rowAt lkX7_298 W.o rfl rfl rfl rfl rfl rfl rfl (kX7_rowAt W C (fun _ => k1 e1) (fun z => absurd (eC ▸ z) hr))
    skip
  have hr := Classical.not_not.mp hr
  obtain ⟨r, rfl⟩ := Int.eq_ofNat_of_zero_le hr.1
  have Rr := S.2.2.2.2.1 r hr.2
  have RWr := Rr.1
  have r2 := Rr.2.1
  have r3 := Rr.2.2.1.1
  obtain ⟨S1, K, SQ1⟩ := S.sc (s := (Z 20 r).toNat) (by omega)
  have SQ1 := SQ1 (by omega)
  have b1 := K.b1
  have b2 := K.b2
  have W5 := S1.1
  have B5 := S1.sb K (by rw [SQ1.1]; exact SQ1.2.1)
  have e20 : (((Z 20 r).toNat : Nat) : Int) = Z 20 r := by omega
  have rF := S1.fr K (v := v) (n := n)
  have eV : zcVal Z r v n = cfn h (Z 20 r).toNat v n := by
    unfold zcVal
    rw [Int.toNat_natCast]
    by_cases z : 0 ≤ v ∧ v ≤ Z 1 (Z 20 r).toNat
    · rw [if_pos ⟨⟨by omega, by omega⟩, ⟨by omega, by omega⟩, z⟩]
      have := S1.fnd K (n := n) z
      rw [e20] at this
      exact this
    · rw [if_neg (fun y => z y.2.2)]
      rcases rF with y | y
      · exact y.symm
      · exact absurd y.1 z
  rw [eV] at k0 k1
  generalize eF : cfn h (Z 20 r).toNat v n = F at k0 k1 rF
  by_cases hF : F = -1
  · refine AW.aload_n dX7_value_0 rfl ?_
    refine AW.iload_n dX7_value_1 rfl ?_
    refine AW.callV (as := [vi _]) dX7_value_2 rfl rfl rfl okX7_rowAt lkX7_298 W.o rfl rfl rfl rfl rfl rfl rfl (kX7_rowN W C (by rw [eC]; exact hr.2) (AW.k1 ?_))
    refine AW.astore dX7_value_5 rfl ?_
    refine AW.aload dX7_value_7 rfl ?_
    refine AW.getRE (j := 0) RWr.o dX7_value_9 lkX7_302 rfl rfl inC4 rfl RWr.r0 ?_
    refine AW.iload_n dX7_value_12 rfl ?_
    refine AW.iload_n dX7_value_13 rfl ?_
    refine AW.callS (as := [vq _, vi _, vi _]) dX7_value_14 rfl rfl rfl okX7_fieldAt lkX7_341 rfl rfl rfl rfl rfl rfl (kX7_fieldAt W5 B5 (fun _ => k1 hF) (fun z => absurd (by rw [eF]; exact hF) z))
    skip
  obtain ⟨rv, rn, rF0, rF1, rF5⟩ := rF.resolve_left hF
  have S0 : SIMq A 9 h (zs Z 48 0 0) c := S.zj zs48_j
  refine AW.aload_n dX7_value_0 rfl ?_
  refine AW.iload_n dX7_value_1 rfl ?_
  refine AW.callV (as := [vi _]) dX7_value_2 rfl rfl rfl okX7_rowAt lkX7_298 W.o rfl rfl rfl rfl rfl rfl rfl (kX7_rowN W C (by rw [eC]; exact hr.2) (AW.k1 ?_))
  refine AW.astore dX7_value_5 rfl ?_
  refine AW.aload dX7_value_7 rfl ?_
  refine AW.getRE (j := 0) RWr.o dX7_value_9 lkX7_302 rfl rfl inC4 rfl RWr.r0 ?_
  refine AW.iload_n dX7_value_12 rfl ?_
  refine AW.iload_n dX7_value_13 rfl ?_
  refine AW.callS (as := [vq _, vi _, vi _]) dX7_value_14 rfl rfl rfl okX7_fieldAt lkX7_341 rfl rfl rfl rfl rfl rfl (kX7_fieldAtE W5 B5 eF hF (AW.k1 ?_))
  refine AW.istore dX7_value_17 rfl ?_
  refine AW.aload_n dX7_value_19 rfl ?_
  refine AW.aload dX7_value_20 rfl ?_
  refine AW.iload_n dX7_value_22 rfl ?_
  refine AW.callV (as := [vq _, vi _]) dX7_value_23 rfl rfl rfl okX7_see lkX7_305 W.o rfl rfl rfl rfl rfl rfl rfl (sX7_see S0 hr.2 rv (fun g F1 V1 B1 R1 => (AW.k0 ?_)))
  have S2 := X_see S0 (BB_zs rfl B.1.2.2.1) hr.2 rfl F1 V1 R1 ⟨rv.1, by omega⟩
  have V12 := R1.2.1
  have FM : Fr nMo h g := F1.mo nOf_mo
  have Wg := S2.1.1
  refine AW.aload_n dX7_value_26 rfl ?_
  refine AW.getRE (j := 5) Wg.o dX7_value_27 lkX7_42 rfl rfl inC8 rfl Wg.r5 ?_
  refine AW.iload dX7_value_30 rfl ?_
  refine AW.callV (as := [vi _]) dX7_value_32 rfl rfl rfl okX5_valueOf lkX7_309 V12.o rfl rfl rfl rfl rfl rfl rfl (kX5_valueOf V12 (AW.k1 ?_))
  refine AW.iret dX7_value_35 rfl ?_
  refine fin1 (k0 hF g ⟨A, S2⟩ FM) rfl ?_
  rw [if_pos (by omega)]
  have y := R1.2.2.2.1 F.toNat (by omega) (by rw [show zsee (zs Z 48 0 0) r v 21 20 = v from zsee_21, show zsee (zs Z 48 0 0) r v 5 = Z 5 from zsee_o rfl]; show ¬ Z 5 (48 * (24 * (Z 20 r).toNat + v.toNat) + F.toNat) = -1; omega)
  rw [y]
  congr 1
  omega
end I1

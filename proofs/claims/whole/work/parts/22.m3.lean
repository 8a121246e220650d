/-! ===== the model: the calls that make versions ===== -/
section M3
variable {Q : AH → AO → Prop} {h : AH} {Z : ZT}
def cd2 (a b : Prop) [Decidable a] [Decidable b] : Int := if a then 1 else if b then 2 else 0
def cd3 (a b c : Prop) [Decidable a] [Decidable b] [Decidable c] : Int := if a then 1 else if b then 2 else if c then 3 else 0
theorem cd2_0 {a b : Prop} [Decidable a] [Decidable b] : ¬ 0 < cd2 a b ↔ ¬ a ∧ ¬ b := by unfold cd2; (repeat' split) <;> simp_all
theorem cd3_0 {a b c : Prop} [Decidable a] [Decidable b] [Decidable c] : ¬ 0 < cd3 a b c ↔ ¬ a ∧ ¬ b ∧ ¬ c := by unfold cd3; (repeat' split) <;> simp_all
theorem zfA_rng {s a n : Int} : ∀ k, zfA Z s a n k = -1 ∨ (0 ≤ zfA Z s a n k ∧ zfA Z s a n k < k ∧ Z 5 (48 * (24 * s + a) + zfA Z s a n k).toNat = n ∧ 0 ≤ n ∧ n ≤ 25)
  | 0 => Or.inl rfl
  | k + 1 => by
    unfold zfA
    split
    · next e => exact Or.inr ⟨by omega, by omega, e.2, e.1⟩
    · rcases zfA_rng k with q | ⟨q1, q2, q3⟩
      · exact Or.inl q
      · exact Or.inr ⟨q1, by omega, q3⟩
theorem zfind_rng {s a n : Int} (hf : 0 ≤ Z 2 s.toNat) : zfind Z s a n = -1 ∨ (0 ≤ zfind Z s a n ∧ zfind Z s a n < Z 2 s.toNat ∧ Z 5 (48 * (24 * s + a) + zfind Z s a n).toNat = n ∧ 0 ≤ n ∧ n ≤ 25) := by
  rcases zfA_rng (Z := Z) (s := s) (a := a) (n := n) (Z 2 s.toNat).toNat with q | ⟨q1, q2, q3⟩
  · exact Or.inl q
  · exact Or.inr ⟨q1, by unfold zfind; omega, q3⟩
theorem zatH_rng (B : BS Z) {s n : Int} : zatH Z s n = -1 ∨ (0 ≤ s ∧ s < Z 0 0 ∧ s < 4 ∧ zatH Z s n = zfind Z s (Z 1 s.toNat) n ∧ 0 ≤ zatH Z s n ∧ zatH Z s n < Z 2 s.toNat ∧ zatH Z s n < 46) := by
  have B0 := B.1
  unfold zatH
  split
  · next e =>
    have b := B.2 s.toNat (by omega)
    rcases zfind_rng (Z := Z) (s := s) (a := Z 1 s.toNat) (n := n) (by omega) with q | ⟨q1, q2, q3⟩
    · exact Or.inl q
    · exact Or.inr ⟨e.1, e.2, by omega, rfl, q1, q2, by omega⟩
  · exact Or.inl rfl
theorem zbeg_o {s a f w : Int} {j i : Nat} {x : Int} (hj : (j != 1 && j != 5 && j != 6 && j != 7 && j != 8 && j != 9) = true) (k : Z j i = x) : zbeg Z s a f w j i = x := by
  simp only [Bool.and_eq_true, bne_iff_ne, ne_eq] at hj
  unfold zbeg zs
  simp only [hj.1.1.1.1.1, hj.1.1.1.1.2, hj.1.1.1.2, hj.1.1.2, hj.1.2, hj.2, false_and, if_false]
  exact zcp_o (by simp [hj.1.1.1.1.2, hj.1.1.1.2]) k
theorem zbeg_h {s a f w x : Int} (k : a = x) : zbeg Z s a f w 1 s.toNat = x := by
  unfold zbeg
  apply zs_ne rfl; apply zs_ne rfl; apply zs_ne rfl; apply zs_ne rfl; apply zs_ne rfl; exact zs_eq rfl k
theorem zbeg_6 {s a f w x : Int} {i : Int} (hs : 0 ≤ s) (ha : 0 < a) (hi : 0 ≤ i ∧ i < f) {q : Nat} (hq : q = (48 * (24 * s + a) + i).toNat) (k : Z 6 (48 * (24 * s + (a - 1)) + i).toNat = x) : zbeg Z s a f w 6 q = x := by
  unfold zbeg
  apply zs_ne rfl; apply zs_ne rfl; apply zs_ne rfl; apply zs_ne rfl; apply zs_ne rfl; apply zs_ne rfl
  unfold zcp
  rw [if_pos ⟨Or.inr rfl, by omega, by omega⟩, ← k]
  congr 1
  omega
theorem zmak_o {s a f n hw v nd : Int} {j i : Nat} {x : Int} (hj : (j != 2 && j != 3 && j != 4 && j != 5 && j != 6) = true) (k : Z j i = x) : zmak Z s a f n hw v nd j i = x := by
  simp only [Bool.and_eq_true, bne_iff_ne, ne_eq] at hj
  unfold zmak zs
  simp only [hj.1.1.1.1, hj.1.1.1.2, hj.1.1.2, hj.1.2, hj.2, false_and, if_false]
  exact k
theorem zmak_2 {s a f n hw v nd x : Int} (k : f + 1 = x) : zmak Z s a f n hw v nd 2 s.toNat = x := zs_eq rfl k
theorem zsF {c : Int} (F : BF Z) : ∀ i, zs Z 48 0 c 6 i = 0 ∨ zs Z 48 0 c 6 i = 1 := fun i => by
  rw [zs_ne (x := Z 6 i) rfl rfl]; exact F 6 rfl i
def zcAdd (Z : ZT) (s n hw v : Int) : Int := cd3 (¬ (0 ≤ s ∧ s < Z 0 0)) (¬ ((0 ≤ n ∧ n ≤ 25) ∧ (0 ≤ hw ∧ hw ≤ 2) ∧ 0 ≤ v ∧ v ≤ zmost hw)) (zatH Z s n ≠ -1 ∨ Z 1 s.toNat = 23)
def zAdd (Z : ZT) (s n hw v nd : Int) : ZT :=
  let a := Z 1 s.toNat + 1
  zs (zmak (zbeg (zs Z 48 0 0) s a (Z 2 s.toNat) 0) s a (Z 2 s.toNat) n hw v nd) 9 (2 * (24 * s + a)).toNat (Z 2 s.toNat)
set_option maxHeartbeats 1000000 in
theorem kX8_add {s n hw v nd : Int} (W : WfM h) (B : BS Z) (F : BF Z) (hnd : nd = 0 ∨ nd = 1) (kE : 0 < zcAdd Z s n hw v → Q (mput h (zs Z 48 0 (zcAdd Z s n hw v))) (.inl (some (vi 0)))) (kO : zcAdd Z s n hw v = 0 → Q (mput h (zAdd Z s n hw v nd)) (.inl (some (vi (Z 2 s.toNat))))) :
    AC mX8_add fX8_add loX8_add 0 0 (mput h Z) [vr mO, vi s, vi n, vi hw, vi v, vi nd] Q := by
  have B0 := B.1
  refine AC.mk (by decide) (Nat.le_of_ble_eq_true rfl) ?_
  refine AW.aload_n dX8_add_0 rfl ?_
  refine AW.iload_n dX8_add_1 rfl ?_
  refine AW.callV (as := [vi _]) dX8_add_2 rfl rfl rfl okX8_isSchema lkX8_156 W.1 rfl rfl rfl rfl rfl rfl rfl (kX8_isSchema W (by assumption) (AW.k1 ?_))
  refine AW.istore dX8_add_5 rfl ?_
  refine AW.iload_n dX8_add_7 rfl ?_
  refine AW.callS (as := [vi _]) dX8_add_8 rfl rfl rfl okX8_isName lkX8_148 rfl rfl rfl rfl rfl rfl (kX8_isName  (AW.k1 ?_))
  refine' AW.if_eqJ 41 (tgt := 40) dX8_add_11 rfl _ _ _
  rotate_left 2
  · intro c_11 k_11
    refine AW.iconst dX8_add_40 (by decide) ?_
    exact k_11
  · intro c_11 k_11
    refine AW.iload_n dX8_add_14 rfl ?_
    refine AW.iconst dX8_add_15 (by decide) ?_
    refine AW.iconst dX8_add_16 (by decide) ?_
    refine AW.callS (as := [vi _, vi _, vi _]) dX8_add_17 rfl rfl rfl okX8_lies lkX8_144 rfl rfl rfl rfl rfl rfl (kX8_lies  (AW.k1 ?_))
    refine' AW.if_eqJ 41 (tgt := 40) dX8_add_20 rfl _ _ _
    rotate_left 2
    · intro c_20 k_20
      refine AW.iconst dX8_add_40 (by decide) ?_
      exact k_20
    · intro c_20 k_20
      refine AW.iload dX8_add_23 rfl ?_
      refine AW.iconst dX8_add_25 (by decide) ?_
      refine AW.iload_n dX8_add_26 rfl ?_
      refine AW.callS (as := [vi _]) dX8_add_27 rfl rfl rfl okX8_most lkX8_165 rfl rfl rfl rfl rfl rfl (kX8_most  (AW.k1 ?_))
      refine AW.callS (as := [vi _, vi _, vi _]) dX8_add_30 rfl rfl rfl okX8_lies lkX8_144 rfl rfl rfl rfl rfl rfl (kX8_lies  (AW.k1 ?_))
      refine' AW.if_eqJ 41 (tgt := 40) dX8_add_33 rfl _ _ _
      rotate_left 2
      · intro c_33 k_33
        refine AW.iconst dX8_add_40 (by decide) ?_
        exact k_33
      · intro c_33 k_33
        refine AW.iconst dX8_add_36 (by decide) ?_
        refine AW.goto (tgt := 41) dX8_add_37 rfl ?_
        exact k_33
      exact k_20
    exact k_11
  refine AW.top (y := bz ((0 ≤ n ∧ n ≤ 25) ∧ (0 ≤ hw ∧ hw ≤ 2) ∧ 0 ≤ v ∧ v ≤ zmost hw)) (by simp only [bz_0]; unfold bz; (repeat' split) <;> simp_all) ?_
  refine AW.istore dX8_add_41 rfl ?_
  refine AW.aload_n dX8_add_43 rfl ?_
  refine AW.iload dX8_add_44 rfl ?_
  refine' AW.if_neJ 85 (tgt := 53) dX8_add_46 rfl _ _ _
  rotate_left 2
  · intro c_46 k_46
    refine AW.iload dX8_add_53 rfl ?_
    refine' AW.if_neJ 85 (tgt := 62) dX8_add_55 rfl _ _ _
    rotate_left 2
    · intro c_55 k_55
      have c := bz_n0.mp c_46
      refine AW.aload_n dX8_add_62 rfl ?_
      refine AW.iload_n dX8_add_63 rfl ?_
      refine AW.iload_n dX8_add_64 rfl ?_
      refine AW.callV (as := [vi _, vi _]) dX8_add_65 rfl rfl rfl okX8_atHead lkX8_169 W.1 rfl rfl rfl rfl rfl rfl rfl (kX8_atHead W (by assumption) (AW.k1 ?_))
      refine AW.iconst dX8_add_68 (by decide) ?_
      refine' AW.icmp_neJ 85 (tgt := 80) dX8_add_69 rfl _ _ _
      rotate_left 2
      · intro c_69 k_69
        refine AW.iconst dX8_add_80 (by decide) ?_
        refine AW.goto (tgt := 85) dX8_add_81 rfl ?_
        exact k_69
      · intro c_69 k_69
        refine AW.aload_n dX8_add_72 rfl ?_
        refine AW.iload_n dX8_add_73 rfl ?_
        refine AW.callV (as := [vi _]) dX8_add_74 rfl rfl rfl okX8_isLast lkX8_173 W.1 rfl rfl rfl rfl rfl rfl rfl (kX8_isLast W (by omega) (AW.k1 ?_))
        refine' AW.if_eqJ 85 (tgt := 84) dX8_add_77 rfl _ _ _
        rotate_left 2
        · intro c_77 k_77
          refine AW.iconst dX8_add_84 (by decide) ?_
          exact k_77
        · intro c_77 k_77
          refine AW.iconst dX8_add_80 (by decide) ?_
          refine AW.goto (tgt := 85) dX8_add_81 rfl ?_
          exact k_77
        exact k_69
      exact k_55
    · intro c_55 k_55
      refine AW.iconst dX8_add_58 (by decide) ?_
      refine AW.goto (tgt := 85) dX8_add_59 rfl ?_
      exact k_55
    exact k_46
  · intro c_46 k_46
    refine AW.iconst dX8_add_49 (by decide) ?_
    refine AW.goto (tgt := 85) dX8_add_50 rfl ?_
    exact k_46
  refine AW.top (y := zcAdd Z s n hw v) (by unfold zcAdd cd3; simp only [bz_0, Classical.not_not]; (repeat' split) <;> simp_all) ?_
  refine AW.callV (as := [vi _]) dX8_add_85 rfl rfl rfl okX8_fails lkX8_162 W.1 rfl rfl rfl rfl rfl rfl rfl (kX8_fails W (AW.k1 ?_))
  refine AW.if_eq (tgt := 93) dX8_add_88 rfl (fun c_88 => ?_) (fun c_88 => ?_)
  · have c := bz_0.mp c_88
    have e : zcAdd Z s n hw v = 0 := by unfold zcAdd cd3 at *; (repeat' split at c) <;> omega
    obtain ⟨c1, c2, c3⟩ := cd3_0.mp c
    rw [Classical.not_not] at c1
    have b := B.2 s.toNat (by omega)
    have c4 : Z 1 s.toNat < 23 := by omega
    rw [e]
    refine AW.aload_n dX8_add_93 rfl ?_
    refine AW.iload_n dX8_add_94 rfl ?_
    refine AW.iconst dX8_add_95 (by decide) ?_
    refine AW.callV (as := [vi _, vi _]) dX8_add_96 rfl rfl rfl okX8_begins lkX8_176 W.1 rfl rfl rfl rfl rfl rfl rfl (kX8_begins (a := Z 1 s.toNat + 1) (f := Z 2 s.toNat) W (by omega) (by (repeat first | apply zs_ne rfl | apply zs_eq (by omega) | apply zs_miss (by omega) | apply zbeg_o rfl | apply zbeg_h | apply zcp_o rfl | apply zmak_o rfl | apply zmak_2); first | exact rfl | assumption | omega) (by (repeat first | apply zs_ne rfl | apply zs_eq (by omega) | apply zs_miss (by omega) | apply zbeg_o rfl | apply zbeg_h | apply zcp_o rfl | apply zmak_o rfl | apply zmak_2); first | exact rfl | assumption | omega) (by omega) (by omega) (zsF F) (AW.k1 ?_))
    refine AW.istore dX8_add_99 rfl ?_
    refine AW.aload_n dX8_add_101 rfl ?_
    refine AW.mA 9 W dX8_add_102 lkX8_35 rfl rfl ?_
    refine AW.iconst dX8_add_105 (by decide) ?_
    refine AW.iload dX8_add_106 rfl ?_
    refine AW.imulB dX8_add_108 (by omega) ?_
    refine AW.aload_n dX8_add_109 rfl ?_
    refine AW.iload_n dX8_add_110 rfl ?_
    refine AW.iload_n dX8_add_111 rfl ?_
    refine AW.iload_n dX8_add_112 rfl ?_
    refine AW.iload dX8_add_113 rfl ?_
    refine AW.iload dX8_add_115 rfl ?_
    refine AW.callV (as := [vi _, vi _, vi _, vi _, vi _]) dX8_add_117 rfl rfl rfl okX8_makes lkX8_179 W.1 rfl rfl rfl rfl rfl rfl rfl (kX8_makes (a := Z 1 s.toNat + 1) (f := Z 2 s.toNat) W (by omega) (by (repeat first | apply zs_ne rfl | apply zs_eq (by omega) | apply zs_miss (by omega) | apply zbeg_o rfl | apply zbeg_h | apply zcp_o rfl | apply zmak_o rfl | apply zmak_2); first | exact rfl | assumption | omega) (by (repeat first | apply zs_ne rfl | apply zs_eq (by omega) | apply zs_miss (by omega) | apply zbeg_o rfl | apply zbeg_h | apply zcp_o rfl | apply zmak_o rfl | apply zmak_2); first | exact rfl | assumption | omega) (by omega) (by omega) hnd (AW.k1 ?_))
    refine AW.mst (j := 9) W dX8_add_120 rfl rfl (by simp only [mlen]; omega) ?_
    refine AW.aload_n dX8_add_121 rfl ?_
    refine AW.mA 9 W dX8_add_122 lkX8_35 rfl rfl ?_
    refine AW.iconst dX8_add_125 (by decide) ?_
    refine AW.iload dX8_add_126 rfl ?_
    refine AW.imulB dX8_add_128 (by omega) ?_
    refine AW.pcs (pc2 := 129) rfl ?_
    refine AW.mldE (j := 9) W dX8_add_129 rfl rfl (by simp only [mlen]; omega) (by (repeat first | apply zs_ne rfl | apply zs_eq (by omega) | apply zs_miss (by omega) | apply zbeg_o rfl | apply zbeg_h | apply zcp_o rfl | apply zmak_o rfl | apply zmak_2); exact rfl) ?_
    refine AW.iret dX8_add_130 rfl ?_
    exact kO e
  · refine AW.iconst dX8_add_91 (by decide) ?_
    refine AW.iret dX8_add_92 rfl ?_
    have c := bz_n0.mp c_88
    exact kE c
def zcRen (Z : ZT) (s n o : Int) : Int := cd3 (zatH Z s n = -1) (¬ (0 ≤ o ∧ o ≤ 25)) (zatH Z s o ≠ -1 ∨ Z 1 s.toNat = 23)
def zRen (Z : ZT) (s n o : Int) : ZT :=
  let a := Z 1 s.toNat + 1
  let f := zatH Z s n
  zs (zs (zs (zbeg (zs Z 48 0 0) s a (Z 2 s.toNat) 1) 8 (2 * (24 * s + a)).toNat f) 9 (2 * (24 * s + a)).toNat f) 5 (48 * (24 * s + a) + f).toNat o
set_option maxHeartbeats 1000000 in
theorem kX8_rename {s n o : Int} (W : WfM h) (B : BS Z) (F : BF Z) (kE : 0 < zcRen Z s n o → Q (mput h (zs Z 48 0 (zcRen Z s n o))) (.inl (some (vi 0)))) (kO : zcRen Z s n o = 0 → Q (mput h (zRen Z s n o)) (.inl (some (vi (Z 1 s.toNat + 1))))) :
    AC mX8_rename fX8_rename loX8_rename 0 0 (mput h Z) [vr mO, vi s, vi n, vi o] Q := by
  have B0 := B.1
  have hR := zatH_rng B (s := s) (n := n)
  refine AC.mk (by decide) (Nat.le_of_ble_eq_true rfl) ?_
  refine AW.aload_n dX8_rename_0 rfl ?_
  refine AW.iload_n dX8_rename_1 rfl ?_
  refine AW.iload_n dX8_rename_2 rfl ?_
  refine AW.callV (as := [vi _, vi _]) dX8_rename_3 rfl rfl rfl okX8_atHead lkX8_169 W.1 rfl rfl rfl rfl rfl rfl rfl (kX8_atHead W (by assumption) (AW.k1 ?_))
  refine AW.istore dX8_rename_6 rfl ?_
  refine AW.aload_n dX8_rename_8 rfl ?_
  refine AW.iload dX8_rename_9 rfl ?_
  refine AW.iconst dX8_rename_11 (by decide) ?_
  refine' AW.icmp_neJ 53 (tgt := 19) dX8_rename_12 rfl _ _ _
  rotate_left 2
  · intro c_12 k_12
    refine AW.iload_n dX8_rename_19 rfl ?_
    refine AW.callS (as := [vi _]) dX8_rename_20 rfl rfl rfl okX8_isName lkX8_148 rfl rfl rfl rfl rfl rfl (kX8_isName  (AW.k1 ?_))
    refine' AW.if_neJ 53 (tgt := 30) dX8_rename_23 rfl _ _ _
    rotate_left 2
    · intro c_23 k_23
      refine AW.aload_n dX8_rename_30 rfl ?_
      refine AW.iload_n dX8_rename_31 rfl ?_
      refine AW.iload_n dX8_rename_32 rfl ?_
      refine AW.callV (as := [vi _, vi _]) dX8_rename_33 rfl rfl rfl okX8_atHead lkX8_169 W.1 rfl rfl rfl rfl rfl rfl rfl (kX8_atHead W (by assumption) (AW.k1 ?_))
      refine AW.iconst dX8_rename_36 (by decide) ?_
      refine' AW.icmp_neJ 53 (tgt := 48) dX8_rename_37 rfl _ _ _
      rotate_left 2
      · intro c_37 k_37
        refine AW.iconst dX8_rename_48 (by decide) ?_
        refine AW.goto (tgt := 53) dX8_rename_49 rfl ?_
        exact k_37
      · intro c_37 k_37
        refine AW.aload_n dX8_rename_40 rfl ?_
        refine AW.iload_n dX8_rename_41 rfl ?_
        refine AW.callV (as := [vi _]) dX8_rename_42 rfl rfl rfl okX8_isLast lkX8_173 W.1 rfl rfl rfl rfl rfl rfl rfl (kX8_isLast W (by omega) (AW.k1 ?_))
        refine' AW.if_eqJ 53 (tgt := 52) dX8_rename_45 rfl _ _ _
        rotate_left 2
        · intro c_45 k_45
          refine AW.iconst dX8_rename_52 (by decide) ?_
          exact k_45
        · intro c_45 k_45
          refine AW.iconst dX8_rename_48 (by decide) ?_
          refine AW.goto (tgt := 53) dX8_rename_49 rfl ?_
          exact k_45
        exact k_37
      exact k_23
    · intro c_23 k_23
      refine AW.iconst dX8_rename_26 (by decide) ?_
      refine AW.goto (tgt := 53) dX8_rename_27 rfl ?_
      exact k_23
    exact k_12
  · intro c_12 k_12
    refine AW.iconst dX8_rename_15 (by decide) ?_
    refine AW.goto (tgt := 53) dX8_rename_16 rfl ?_
    exact k_12
  refine AW.top (y := zcRen Z s n o) (by unfold zcRen cd3; simp only [bz_0, Classical.not_not]; (repeat' split) <;> simp_all) ?_
  refine AW.callV (as := [vi _]) dX8_rename_53 rfl rfl rfl okX8_fails lkX8_162 W.1 rfl rfl rfl rfl rfl rfl rfl (kX8_fails W (AW.k1 ?_))
  refine AW.if_eq (tgt := 61) dX8_rename_56 rfl (fun c_56 => ?_) (fun c_56 => ?_)
  · have c := bz_0.mp c_56
    have e : zcRen Z s n o = 0 := by unfold zcRen cd3 at *; (repeat' split at c) <;> omega
    obtain ⟨c1, c2, c3⟩ := cd3_0.mp c
    have hR := hR.resolve_left c1
    have b := B.2 s.toNat (by omega)
    have c4 : Z 1 s.toNat < 23 := by omega
    rw [e]
    refine AW.aload_n dX8_rename_61 rfl ?_
    refine AW.iload_n dX8_rename_62 rfl ?_
    refine AW.iconst dX8_rename_63 (by decide) ?_
    refine AW.callV (as := [vi _, vi _]) dX8_rename_64 rfl rfl rfl okX8_begins lkX8_176 W.1 rfl rfl rfl rfl rfl rfl rfl (kX8_begins (a := Z 1 s.toNat + 1) (f := Z 2 s.toNat) W (by omega) (by (repeat first | apply zs_ne rfl | apply zs_eq (by omega) | apply zs_miss (by omega) | apply zbeg_o rfl | apply zbeg_h | apply zcp_o rfl); first | exact rfl | assumption | omega) (by (repeat first | apply zs_ne rfl | apply zs_eq (by omega) | apply zs_miss (by omega) | apply zbeg_o rfl | apply zbeg_h | apply zcp_o rfl); first | exact rfl | assumption | omega) (by omega) (by omega) (zsF F) (AW.k1 ?_))
    refine AW.istore dX8_rename_67 rfl ?_
    refine AW.aload_n dX8_rename_69 rfl ?_
    refine AW.mA 8 W dX8_rename_70 lkX8_32 rfl rfl ?_
    refine AW.iconst dX8_rename_73 (by decide) ?_
    refine AW.iload dX8_rename_74 rfl ?_
    refine AW.imulB dX8_rename_76 (by omega) ?_
    refine AW.iload dX8_rename_77 rfl ?_
    refine AW.mst (j := 8) W dX8_rename_79 rfl rfl (by simp only [mlen]; omega) ?_
    refine AW.aload_n dX8_rename_80 rfl ?_
    refine AW.mA 9 W dX8_rename_81 lkX8_35 rfl rfl ?_
    refine AW.iconst dX8_rename_84 (by decide) ?_
    refine AW.iload dX8_rename_85 rfl ?_
    refine AW.imulB dX8_rename_87 (by omega) ?_
    refine AW.iload dX8_rename_88 rfl ?_
    refine AW.mst (j := 9) W dX8_rename_90 rfl rfl (by simp only [mlen]; omega) ?_
    refine AW.aload_n dX8_rename_91 rfl ?_
    refine AW.mA 5 W dX8_rename_92 lkX8_22 rfl rfl ?_
    refine AW.iload_n dX8_rename_95 rfl ?_
    refine AW.aload_n dX8_rename_96 rfl ?_
    refine AW.pcs (pc2 := 97) rfl ?_
    refine AW.mA 1 W dX8_rename_97 lkX8_7 rfl rfl ?_
    refine AW.iload_n dX8_rename_100 rfl ?_
    refine AW.mldE (j := 1) W dX8_rename_101 rfl rfl (by simp only [mlen]; omega) (by (repeat first | apply zs_ne rfl | apply zs_eq (by omega) | apply zs_miss (by omega) | apply zbeg_o rfl | apply zbeg_h | apply zcp_o rfl); exact rfl) ?_
    refine AW.iload dX8_rename_102 rfl ?_
    refine AW.callS (as := [vi _, vi _, vi _]) dX8_rename_104 rfl rfl rfl okX8_place lkX8_152 rfl rfl rfl rfl rfl rfl (kX8_place (by omega) (AW.k1 ?_))
    refine AW.iload_n dX8_rename_107 rfl ?_
    refine AW.mst (j := 5) W dX8_rename_108 rfl rfl (by simp only [mlen]; omega) ?_
    refine AW.aload_n dX8_rename_109 rfl ?_
    refine AW.mA 1 W dX8_rename_110 lkX8_7 rfl rfl ?_
    refine AW.iload_n dX8_rename_113 rfl ?_
    refine AW.mldE (j := 1) W dX8_rename_114 rfl rfl (by simp only [mlen]; omega) (by (repeat first | apply zs_ne rfl | apply zs_eq (by omega) | apply zs_miss (by omega) | apply zbeg_o rfl | apply zbeg_h | apply zcp_o rfl); exact rfl) ?_
    refine AW.iret dX8_rename_115 rfl ?_
    exact kO e
  · refine AW.iconst dX8_rename_59 (by decide) ?_
    refine AW.iret dX8_rename_60 rfl ?_
    have c := bz_n0.mp c_56
    exact kE c
def zcTur (Z : ZT) (s n hw : Int) : Int := cd3 (zatH Z s n = -1) (¬ (0 ≤ hw ∧ hw ≤ 2)) (Z 3 (48 * s + zatH Z s n).toNat = hw ∨ ¬ zwt Z s (zatH Z s n) = 0 ∨ Z 1 s.toNat = 23)
def zTur (Z : ZT) (s n hw : Int) : ZT :=
  let a := Z 1 s.toNat + 1
  let f := zatH Z s n
  let nf := Z 2 s.toNat
  zs (zmak (zs (zs (zbeg (zs Z 48 0 0) s a nf 2) 5 (48 * (24 * s + a) + f).toNat (-1)) 8 (2 * (24 * s + a)).toNat f) s a nf n hw (ztur (Z 4 (48 * s + f).toNat) (Z 3 (48 * s + f).toNat) hw) (Z 6 (48 * (24 * s + Z 1 s.toNat) + f).toNat)) 9 (2 * (24 * s + a)).toNat nf
set_option maxHeartbeats 1000000 in
theorem kX8_turn {s n hw : Int} (W : WfM h) (B : BS Z) (F : BF Z) (kE : 0 < zcTur Z s n hw → Q (mput h (zs Z 48 0 (zcTur Z s n hw))) (.inl (some (vi 0)))) (kO : zcTur Z s n hw = 0 → Q (mput h (zTur Z s n hw)) (.inl (some (vi (Z 2 s.toNat))))) :
    AC mX8_turn fX8_turn loX8_turn 0 0 (mput h Z) [vr mO, vi s, vi n, vi hw] Q := by
  have B0 := B.1
  have hR := zatH_rng B (s := s) (n := n)
  refine AC.mk (by decide) (Nat.le_of_ble_eq_true rfl) ?_
  refine AW.aload_n dX8_turn_0 rfl ?_
  refine AW.iload_n dX8_turn_1 rfl ?_
  refine AW.iload_n dX8_turn_2 rfl ?_
  refine AW.callV (as := [vi _, vi _]) dX8_turn_3 rfl rfl rfl okX8_atHead lkX8_169 W.1 rfl rfl rfl rfl rfl rfl rfl (kX8_atHead W (by assumption) (AW.k1 ?_))
  refine AW.istore dX8_turn_6 rfl ?_
  refine AW.iload dX8_turn_8 rfl ?_
  refine AW.iconst dX8_turn_10 (by decide) ?_
  refine' AW.icmp_eqJ 53 (tgt := 52) dX8_turn_11 rfl _ _ _
  rotate_left 2
  · intro c_11 k_11
    refine AW.iconst dX8_turn_52 (by decide) ?_
    exact k_11
  · intro c_11 k_11
    have hR2 := hR.resolve_left c_11
    have b := B.2 s.toNat (by omega)
    refine AW.aload_n dX8_turn_14 rfl ?_
    refine AW.mA 3 W dX8_turn_15 lkX8_16 rfl rfl ?_
    refine AW.bipush dX8_turn_18 bp_48 (by decide) ?_
    refine AW.iload_n dX8_turn_20 rfl ?_
    refine AW.imulB dX8_turn_21 (by omega) ?_
    refine AW.iload dX8_turn_22 rfl ?_
    refine AW.iaddB dX8_turn_24 (by omega) ?_
    refine AW.mldE (j := 3) W dX8_turn_25 rfl rfl (by simp only [mlen]; omega) rfl ?_
    refine AW.iload_n dX8_turn_26 rfl ?_
    refine' AW.icmp_eqJ 53 (tgt := 52) dX8_turn_27 rfl _ _ _
    rotate_left 2
    · intro c_27 k_27
      refine AW.iconst dX8_turn_52 (by decide) ?_
      exact k_27
    · intro c_27 k_27
      refine AW.aload_n dX8_turn_30 rfl ?_
      refine AW.iload_n dX8_turn_31 rfl ?_
      refine AW.iload dX8_turn_32 rfl ?_
      refine AW.callV (as := [vi _, vi _]) dX8_turn_34 rfl rfl rfl okX8_isWaiting lkX8_183 W.1 rfl rfl rfl rfl rfl rfl rfl (kX8_isWaiting W (by omega) (by omega) (AW.k1 ?_))
      refine' AW.if_neJ 53 (tgt := 52) dX8_turn_37 rfl _ _ _
      rotate_left 2
      · intro c_37 k_37
        refine AW.iconst dX8_turn_52 (by decide) ?_
        exact k_37
      · intro c_37 k_37
        refine AW.aload_n dX8_turn_40 rfl ?_
        refine AW.iload_n dX8_turn_41 rfl ?_
        refine AW.callV (as := [vi _]) dX8_turn_42 rfl rfl rfl okX8_isLast lkX8_173 W.1 rfl rfl rfl rfl rfl rfl rfl (kX8_isLast W (by omega) (AW.k1 ?_))
        refine' AW.if_neJ 53 (tgt := 52) dX8_turn_45 rfl _ _ _
        rotate_left 2
        · intro c_45 k_45
          refine AW.iconst dX8_turn_52 (by decide) ?_
          exact k_45
        · intro c_45 k_45
          refine AW.iconst dX8_turn_48 (by decide) ?_
          refine AW.goto (tgt := 53) dX8_turn_49 rfl ?_
          exact k_45
        exact k_37
      exact k_27
    exact k_11
  refine AW.top (y := bz (¬ zatH Z s n = -1 ∧ ¬ Z 3 (48 * s + zatH Z s n).toNat = hw ∧ zwt Z s (zatH Z s n) = 0 ∧ ¬ Z 1 s.toNat = 23)) (by simp only [bz_0]; unfold bz; (repeat' split) <;> simp_all) ?_
  refine AW.istore dX8_turn_53 rfl ?_
  refine AW.aload_n dX8_turn_55 rfl ?_
  refine AW.iload dX8_turn_56 rfl ?_
  refine AW.iconst dX8_turn_58 (by decide) ?_
  refine' AW.icmp_neJ 89 (tgt := 66) dX8_turn_59 rfl _ _ _
  rotate_left 2
  · intro c_59 k_59
    refine AW.iload_n dX8_turn_66 rfl ?_
    refine AW.iconst dX8_turn_67 (by decide) ?_
    refine AW.iconst dX8_turn_68 (by decide) ?_
    refine AW.callS (as := [vi _, vi _, vi _]) dX8_turn_69 rfl rfl rfl okX8_lies lkX8_144 rfl rfl rfl rfl rfl rfl (kX8_lies  (AW.k1 ?_))
    refine' AW.if_neJ 89 (tgt := 79) dX8_turn_72 rfl _ _ _
    rotate_left 2
    · intro c_72 k_72
      refine AW.iload dX8_turn_79 rfl ?_
      refine' AW.if_eqJ 89 (tgt := 88) dX8_turn_81 rfl _ _ _
      rotate_left 2
      · intro c_81 k_81
        refine AW.iconst dX8_turn_88 (by decide) ?_
        exact k_81
      · intro c_81 k_81
        refine AW.iconst dX8_turn_84 (by decide) ?_
        refine AW.goto (tgt := 89) dX8_turn_85 rfl ?_
        exact k_81
      exact k_72
    · intro c_72 k_72
      refine AW.iconst dX8_turn_75 (by decide) ?_
      refine AW.goto (tgt := 89) dX8_turn_76 rfl ?_
      exact k_72
    exact k_59
  · intro c_59 k_59
    refine AW.iconst dX8_turn_62 (by decide) ?_
    refine AW.goto (tgt := 89) dX8_turn_63 rfl ?_
    exact k_59
  refine AW.top (y := zcTur Z s n hw) (by unfold zcTur cd3; simp only [bz_0, Classical.not_not]; (repeat' split) <;> simp_all) ?_
  refine AW.callV (as := [vi _]) dX8_turn_89 rfl rfl rfl okX8_fails lkX8_162 W.1 rfl rfl rfl rfl rfl rfl rfl (kX8_fails W (AW.k1 ?_))
  refine AW.if_eq (tgt := 97) dX8_turn_92 rfl (fun c_92 => ?_) (fun c_92 => ?_)
  · have c := bz_0.mp c_92
    have e : zcTur Z s n hw = 0 := by unfold zcTur cd3 at *; (repeat' split at c) <;> omega
    obtain ⟨c1, c2, c3⟩ := cd3_0.mp c
    have hR := hR.resolve_left c1
    have b := B.2 s.toNat (by omega)
    have c4 : Z 1 s.toNat < 23 := by omega
    rw [e]
    refine AW.bipush dX8_turn_97 bp_48 (by decide) ?_
    refine AW.iload_n dX8_turn_99 rfl ?_
    refine AW.imulB dX8_turn_100 (by omega) ?_
    refine AW.iload dX8_turn_101 rfl ?_
    refine AW.iaddB dX8_turn_103 (by omega) ?_
    refine AW.istore dX8_turn_104 rfl ?_
    refine AW.aload_n dX8_turn_106 rfl ?_
    refine AW.mA 6 W dX8_turn_107 lkX8_25 rfl rfl ?_
    refine AW.iload_n dX8_turn_110 rfl ?_
    refine AW.aload_n dX8_turn_111 rfl ?_
    refine AW.mA 1 W dX8_turn_112 lkX8_7 rfl rfl ?_
    refine AW.iload_n dX8_turn_115 rfl ?_
    refine AW.mldE (j := 1) W dX8_turn_116 rfl rfl (by simp only [mlen]; omega) (by (repeat first | apply zs_ne rfl | apply zs_eq (by omega) | apply zs_miss (by omega) | apply zbeg_o rfl | apply zbeg_h | apply zcp_o rfl | apply zmak_o rfl | apply zmak_2); exact rfl) ?_
    refine AW.iload dX8_turn_117 rfl ?_
    refine AW.callS (as := [vi _, vi _, vi _]) dX8_turn_119 rfl rfl rfl okX8_place lkX8_152 rfl rfl rfl rfl rfl rfl (kX8_place (by omega) (AW.k1 ?_))
    refine AW.mldZE (j := 6) W dX8_turn_122 rfl rfl (by simp only [mlen]; omega) (by (repeat first | apply zs_ne rfl | apply zs_eq (by omega) | apply zs_miss (by omega) | apply zbeg_o rfl | apply zbeg_h | apply zcp_o rfl | apply zmak_o rfl | apply zmak_2); exact rfl) ?_
    refine AW.istore dX8_turn_123 rfl ?_
    refine AW.aload_n dX8_turn_125 rfl ?_
    refine AW.iload_n dX8_turn_126 rfl ?_
    refine AW.iconst dX8_turn_127 (by decide) ?_
    refine AW.callV (as := [vi _, vi _]) dX8_turn_128 rfl rfl rfl okX8_begins lkX8_176 W.1 rfl rfl rfl rfl rfl rfl rfl (kX8_begins (a := Z 1 s.toNat + 1) (f := Z 2 s.toNat) W (by omega) (by (repeat first | apply zs_ne rfl | apply zs_eq (by omega) | apply zs_miss (by omega) | apply zbeg_o rfl | apply zbeg_h | apply zcp_o rfl | apply zmak_o rfl | apply zmak_2); first | exact rfl | assumption | omega) (by (repeat first | apply zs_ne rfl | apply zs_eq (by omega) | apply zs_miss (by omega) | apply zbeg_o rfl | apply zbeg_h | apply zcp_o rfl | apply zmak_o rfl | apply zmak_2); first | exact rfl | assumption | omega) (by omega) (by omega) (zsF F) (AW.k1 ?_))
    refine AW.istore dX8_turn_131 rfl ?_
    refine AW.aload_n dX8_turn_133 rfl ?_
    refine AW.pcs (pc2 := 134) rfl ?_
    refine AW.iload_n dX8_turn_134 rfl ?_
    refine AW.iload dX8_turn_135 rfl ?_
    refine AW.callV (as := [vi _, vi _]) dX8_turn_137 rfl rfl rfl okX8_ends lkX8_187 W.1 rfl rfl rfl rfl rfl rfl rfl (kX8_ends (a := Z 1 s.toNat + 1) W (by omega) (by (repeat first | apply zs_ne rfl | apply zs_eq (by omega) | apply zs_miss (by omega) | apply zbeg_o rfl | apply zbeg_h | apply zcp_o rfl | apply zmak_o rfl | apply zmak_2); first | exact rfl | assumption | omega) (by omega) (by omega) (AW.k0 ?_))
    refine AW.aload_n dX8_turn_140 rfl ?_
    refine AW.mA 8 W dX8_turn_141 lkX8_32 rfl rfl ?_
    refine AW.iconst dX8_turn_144 (by decide) ?_
    refine AW.iload dX8_turn_145 rfl ?_
    refine AW.imulB dX8_turn_147 (by omega) ?_
    refine AW.iload dX8_turn_148 rfl ?_
    refine AW.mst (j := 8) W dX8_turn_150 rfl rfl (by simp only [mlen]; omega) ?_
    refine AW.aload_n dX8_turn_151 rfl ?_
    refine AW.mA 9 W dX8_turn_152 lkX8_35 rfl rfl ?_
    refine AW.iconst dX8_turn_155 (by decide) ?_
    refine AW.iload dX8_turn_156 rfl ?_
    refine AW.imulB dX8_turn_158 (by omega) ?_
    refine AW.aload_n dX8_turn_159 rfl ?_
    refine AW.iload_n dX8_turn_160 rfl ?_
    refine AW.iload_n dX8_turn_161 rfl ?_
    refine AW.iload_n dX8_turn_162 rfl ?_
    refine AW.aload_n dX8_turn_163 rfl ?_
    refine AW.mA 4 W dX8_turn_164 lkX8_19 rfl rfl ?_
    refine AW.iload dX8_turn_167 rfl ?_
    refine AW.mldE (j := 4) W dX8_turn_169 rfl rfl (by simp only [mlen]; omega) (by (repeat first | apply zs_ne rfl | apply zs_eq (by omega) | apply zs_miss (by omega) | apply zbeg_o rfl | apply zbeg_h | apply zcp_o rfl | apply zmak_o rfl | apply zmak_2); exact rfl) ?_
    refine AW.aload_n dX8_turn_170 rfl ?_
    refine AW.pcs (pc2 := 171) rfl ?_
    refine AW.mA 3 W dX8_turn_171 lkX8_16 rfl rfl ?_
    refine AW.iload dX8_turn_174 rfl ?_
    refine AW.mldE (j := 3) W dX8_turn_176 rfl rfl (by simp only [mlen]; omega) (by (repeat first | apply zs_ne rfl | apply zs_eq (by omega) | apply zs_miss (by omega) | apply zbeg_o rfl | apply zbeg_h | apply zcp_o rfl | apply zmak_o rfl | apply zmak_2); exact rfl) ?_
    refine AW.iload_n dX8_turn_177 rfl ?_
    refine AW.callS (as := [vi _, vi _, vi _]) dX8_turn_178 rfl rfl rfl okX8_turned lkX8_191 rfl rfl rfl rfl rfl rfl (kX8_turned  (AW.k1 ?_))
    refine AW.iload dX8_turn_181 rfl ?_
    refine AW.callV (as := [vi _, vi _, vi _, vi _, vi _]) dX8_turn_183 rfl rfl rfl okX8_makes lkX8_179 W.1 rfl rfl rfl rfl rfl rfl rfl (kX8_makes (a := Z 1 s.toNat + 1) (f := Z 2 s.toNat) W (by omega) (by (repeat first | apply zs_ne rfl | apply zs_eq (by omega) | apply zs_miss (by omega) | apply zbeg_o rfl | apply zbeg_h | apply zcp_o rfl | apply zmak_o rfl | apply zmak_2); first | exact rfl | assumption | omega) (by (repeat first | apply zs_ne rfl | apply zs_eq (by omega) | apply zs_miss (by omega) | apply zbeg_o rfl | apply zbeg_h | apply zcp_o rfl | apply zmak_o rfl | apply zmak_2); first | exact rfl | assumption | omega) (by omega) (by omega) (F 6 rfl _) (AW.k1 ?_))
    refine AW.mst (j := 9) W dX8_turn_186 rfl rfl (by simp only [mlen]; omega) ?_
    refine AW.aload_n dX8_turn_187 rfl ?_
    refine AW.mA 9 W dX8_turn_188 lkX8_35 rfl rfl ?_
    refine AW.iconst dX8_turn_191 (by decide) ?_
    refine AW.iload dX8_turn_192 rfl ?_
    refine AW.imulB dX8_turn_194 (by omega) ?_
    refine AW.mldE (j := 9) W dX8_turn_195 rfl rfl (by simp only [mlen]; omega) (by (repeat first | apply zs_ne rfl | apply zs_eq (by omega) | apply zs_miss (by omega) | apply zbeg_o rfl | apply zbeg_h | apply zcp_o rfl | apply zmak_o rfl | apply zmak_2); exact rfl) ?_
    refine AW.iret dX8_turn_196 rfl ?_
    exact kO e
  · refine AW.iconst dX8_turn_95 (by decide) ?_
    refine AW.iret dX8_turn_96 rfl ?_
    have c := bz_n0.mp c_92
    exact kE c
def zcTog (Z : ZT) (s n : Int) : Int := cd2 (zatH Z s n = -1) (Z 1 s.toNat = 23)
def zTog (Z : ZT) (s n : Int) : ZT :=
  let a := Z 1 s.toNat + 1
  let f := zatH Z s n
  zs (zs (zs (zbeg (zs Z 48 0 0) s a (Z 2 s.toNat) 6) 8 (2 * (24 * s + a)).toNat f) 9 (2 * (24 * s + a)).toNat f) 6 (48 * (24 * s + a) + f).toNat (bz (Z 6 (48 * (24 * s + Z 1 s.toNat) + f).toNat = 0))
set_option maxHeartbeats 1000000 in
theorem kX8_toggleNeed {s n : Int} (W : WfM h) (B : BS Z) (F : BF Z) (kE : 0 < zcTog Z s n → Q (mput h (zs Z 48 0 (zcTog Z s n))) (.inl (some (vi 0)))) (kO : zcTog Z s n = 0 → Q (mput h (zTog Z s n)) (.inl (some (vi (bz (Z 6 (48 * (24 * s + Z 1 s.toNat) + zatH Z s n).toNat = 0)))))) :
    AC mX8_toggleNeed fX8_toggleNeed loX8_toggleNeed 0 0 (mput h Z) [vr mO, vi s, vi n] Q := by
  have B0 := B.1
  have hR := zatH_rng B (s := s) (n := n)
  refine AC.mk (by decide) (Nat.le_of_ble_eq_true rfl) ?_
  refine AW.aload_n dX8_toggleNeed_0 rfl ?_
  refine AW.iload_n dX8_toggleNeed_1 rfl ?_
  refine AW.iload_n dX8_toggleNeed_2 rfl ?_
  refine AW.callV (as := [vi _, vi _]) dX8_toggleNeed_3 rfl rfl rfl okX8_atHead lkX8_169 W.1 rfl rfl rfl rfl rfl rfl rfl (kX8_atHead W (by assumption) (AW.k1 ?_))
  refine AW.istore_n dX8_toggleNeed_6 rfl ?_
  refine AW.aload_n dX8_toggleNeed_7 rfl ?_
  refine AW.iload_n dX8_toggleNeed_8 rfl ?_
  refine AW.iconst dX8_toggleNeed_9 (by decide) ?_
  refine' AW.icmp_neJ 30 (tgt := 17) dX8_toggleNeed_10 rfl _ _ _
  rotate_left 2
  · intro c_10 k_10
    have hR2 := hR.resolve_left c_10
    refine AW.aload_n dX8_toggleNeed_17 rfl ?_
    refine AW.iload_n dX8_toggleNeed_18 rfl ?_
    refine AW.callV (as := [vi _]) dX8_toggleNeed_19 rfl rfl rfl okX8_isLast lkX8_173 W.1 rfl rfl rfl rfl rfl rfl rfl (kX8_isLast W (by omega) (AW.k1 ?_))
    refine' AW.if_eqJ 30 (tgt := 29) dX8_toggleNeed_22 rfl _ _ _
    rotate_left 2
    · intro c_22 k_22
      refine AW.iconst dX8_toggleNeed_29 (by decide) ?_
      exact k_22
    · intro c_22 k_22
      refine AW.iconst dX8_toggleNeed_25 (by decide) ?_
      refine AW.goto (tgt := 30) dX8_toggleNeed_26 rfl ?_
      exact k_22
    exact k_10
  · intro c_10 k_10
    refine AW.iconst dX8_toggleNeed_13 (by decide) ?_
    refine AW.goto (tgt := 30) dX8_toggleNeed_14 rfl ?_
    exact k_10
  refine AW.top (y := zcTog Z s n) (by unfold zcTog cd2; simp only [bz_0, Classical.not_not]; (repeat' split) <;> simp_all) ?_
  refine AW.callV (as := [vi _]) dX8_toggleNeed_30 rfl rfl rfl okX8_fails lkX8_162 W.1 rfl rfl rfl rfl rfl rfl rfl (kX8_fails W (AW.k1 ?_))
  refine AW.if_eq (tgt := 38) dX8_toggleNeed_33 rfl (fun c_33 => ?_) (fun c_33 => ?_)
  · have c := bz_0.mp c_33
    have e : zcTog Z s n = 0 := by unfold zcTog cd2 at *; (repeat' split at c) <;> omega
    obtain ⟨c1, c2⟩ := cd2_0.mp c
    have hR := hR.resolve_left c1
    have b := B.2 s.toNat (by omega)
    have c4 : Z 1 s.toNat < 23 := by omega
    rw [e]
    refine AW.aload_n dX8_toggleNeed_38 rfl ?_
    refine AW.iload_n dX8_toggleNeed_39 rfl ?_
    refine AW.bipush dX8_toggleNeed_40 bp_6 (by decide) ?_
    refine AW.callV (as := [vi _, vi _]) dX8_toggleNeed_42 rfl rfl rfl okX8_begins lkX8_176 W.1 rfl rfl rfl rfl rfl rfl rfl (kX8_begins (a := Z 1 s.toNat + 1) (f := Z 2 s.toNat) W (by omega) (by (repeat first | apply zs_ne rfl | apply zs_eq (by omega) | apply zs_miss (by omega) | apply zbeg_o rfl | apply zbeg_h | apply zcp_o rfl | apply zbeg_6 (i := zatH Z s n) (by omega) (by omega) (by omega) (by omega)); first | exact rfl | assumption | omega) (by (repeat first | apply zs_ne rfl | apply zs_eq (by omega) | apply zs_miss (by omega) | apply zbeg_o rfl | apply zbeg_h | apply zcp_o rfl | apply zbeg_6 (i := zatH Z s n) (by omega) (by omega) (by omega) (by omega)); first | exact rfl | assumption | omega) (by omega) (by omega) (zsF F) (AW.k1 ?_))
    refine AW.istore dX8_toggleNeed_45 rfl ?_
    refine AW.aload_n dX8_toggleNeed_47 rfl ?_
    refine AW.mA 8 W dX8_toggleNeed_48 lkX8_32 rfl rfl ?_
    refine AW.iconst dX8_toggleNeed_51 (by decide) ?_
    refine AW.iload dX8_toggleNeed_52 rfl ?_
    refine AW.imulB dX8_toggleNeed_54 (by omega) ?_
    refine AW.iload_n dX8_toggleNeed_55 rfl ?_
    refine AW.mst (j := 8) W dX8_toggleNeed_56 rfl rfl (by simp only [mlen]; omega) ?_
    refine AW.aload_n dX8_toggleNeed_57 rfl ?_
    refine AW.mA 9 W dX8_toggleNeed_58 lkX8_35 rfl rfl ?_
    refine AW.iconst dX8_toggleNeed_61 (by decide) ?_
    refine AW.iload dX8_toggleNeed_62 rfl ?_
    refine AW.imulB dX8_toggleNeed_64 (by omega) ?_
    refine AW.iload_n dX8_toggleNeed_65 rfl ?_
    refine AW.mst (j := 9) W dX8_toggleNeed_66 rfl rfl (by simp only [mlen]; omega) ?_
    refine AW.iload_n dX8_toggleNeed_67 rfl ?_
    refine AW.aload_n dX8_toggleNeed_68 rfl ?_
    refine AW.mA 1 W dX8_toggleNeed_69 lkX8_7 rfl rfl ?_
    refine AW.iload_n dX8_toggleNeed_72 rfl ?_
    refine AW.pcs (pc2 := 73) rfl ?_
    refine AW.mldE (j := 1) W dX8_toggleNeed_73 rfl rfl (by simp only [mlen]; omega) (by (repeat first | apply zs_ne rfl | apply zs_eq (by omega) | apply zs_miss (by omega) | apply zbeg_o rfl | apply zbeg_h | apply zcp_o rfl | apply zbeg_6 (i := zatH Z s n) (by omega) (by omega) (by omega) (by omega)); exact rfl) ?_
    refine AW.iload_n dX8_toggleNeed_74 rfl ?_
    refine AW.callS (as := [vi _, vi _, vi _]) dX8_toggleNeed_75 rfl rfl rfl okX8_place lkX8_152 rfl rfl rfl rfl rfl rfl (kX8_place (by omega) (AW.k1 ?_))
    refine AW.istore dX8_toggleNeed_78 rfl ?_
    refine AW.aload_n dX8_toggleNeed_80 rfl ?_
    refine AW.mA 6 W dX8_toggleNeed_81 lkX8_25 rfl rfl ?_
    refine AW.iload dX8_toggleNeed_84 rfl ?_
    refine AW.aload_n dX8_toggleNeed_86 rfl ?_
    refine AW.mA 6 W dX8_toggleNeed_87 lkX8_25 rfl rfl ?_
    refine AW.iload dX8_toggleNeed_90 rfl ?_
    refine AW.mldZE (j := 6) W dX8_toggleNeed_92 rfl rfl (by simp only [mlen]; omega) (by apply zs_ne rfl; apply zs_ne rfl; apply zbeg_6 (a := Z 1 s.toNat + 1) (i := zatH Z s n) (by omega) (by omega) (by omega) (by omega); apply zs_ne rfl; exact congrArg (fun q => Z 6 (48 * (24 * s + q) + zatH Z s n).toNat) (show Z 1 s.toNat + 1 - 1 = Z 1 s.toNat by omega)) ?_
    refine' AW.if_neJ 101 (tgt := 100) dX8_toggleNeed_93 rfl _ _ _
    rotate_left 2
    · intro c_93 k_93
      refine AW.iconst dX8_toggleNeed_100 (by decide) ?_
      exact k_93
    · intro c_93 k_93
      refine AW.iconst dX8_toggleNeed_96 (by decide) ?_
      refine AW.goto (tgt := 101) dX8_toggleNeed_97 rfl ?_
      exact k_93
    refine AW.top (y := bz (Z 6 (48 * (24 * s + Z 1 s.toNat) + zatH Z s n).toNat = 0)) (by unfold bz; (repeat' split) <;> first | rfl | contradiction) ?_
    refine AW.mstZ (j := 6) W dX8_toggleNeed_101 rfl rfl (by simp only [mlen]; omega) (by exact bz01 _) ?_
    refine AW.aload_n dX8_toggleNeed_102 rfl ?_
    refine AW.mA 6 W dX8_toggleNeed_103 lkX8_25 rfl rfl ?_
    refine AW.iload dX8_toggleNeed_106 rfl ?_
    refine AW.mldZE (j := 6) W dX8_toggleNeed_108 rfl rfl (by simp only [mlen]; omega) (by (repeat first | apply zs_ne rfl | apply zs_eq (by omega) | apply zs_miss (by omega) | apply zbeg_o rfl | apply zbeg_h | apply zcp_o rfl | apply zbeg_6 (i := zatH Z s n) (by omega) (by omega) (by omega) (by omega)); exact rfl) ?_
    refine AW.zret dX8_toggleNeed_109 rfl ?_ ?_
    · exact bz01 _
    exact kO e
  · refine AW.iconst dX8_toggleNeed_36 (by decide) ?_
    refine AW.zret dX8_toggleNeed_37 rfl ?_ ?_
    · left; rfl
    have c := bz_n0.mp c_33
    exact kE c
end M3

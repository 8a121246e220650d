/-! ===== the model: over one step ===== -/
section M13
variable {Q : AH → AO → Prop} {h : AH} {Z : ZT}
def zfr (Z : ZT) (p j : Int) : Int := Z 8 (2 * p + j).toNat
def zbe (Z : ZT) (p j : Int) : Int := Z 9 (2 * p + j).toNat
theorem kX8_front {p j : Int} (W : WfM h) (hp : 0 ≤ p ∧ p < 96) (hj : 0 ≤ j ∧ j ≤ 1) (k : Q (mput h Z) (.inl (some (vi (zfr Z p j))))) : AC mX8_front fX8_front loX8_front 0 0 (mput h Z) [vr mO, vi p, vi j] Q := by
  refine AC.mk (by decide) (Nat.le_of_ble_eq_true rfl) ?_
  refine AW.aload_n dX8_front_0 rfl ?_
  refine AW.mA 8 W dX8_front_1 lkX8_32 rfl rfl ?_
  refine AW.iconst dX8_front_4 (by decide) ?_
  refine AW.iload_n dX8_front_5 rfl ?_
  refine AW.imulB dX8_front_6 (by omega) ?_
  refine AW.iload_n dX8_front_7 rfl ?_
  refine AW.iaddB dX8_front_8 (by omega) ?_
  refine AW.mldE (j := 8) W dX8_front_9 rfl rfl (by simp only [mlen]; omega) rfl ?_
  refine AW.iret dX8_front_10 rfl ?_
  exact k
theorem kX8_behind {p j : Int} (W : WfM h) (hp : 0 ≤ p ∧ p < 96) (hj : 0 ≤ j ∧ j ≤ 1) (k : Q (mput h Z) (.inl (some (vi (zbe Z p j))))) : AC mX8_behind fX8_behind loX8_behind 0 0 (mput h Z) [vr mO, vi p, vi j] Q := by
  refine AC.mk (by decide) (Nat.le_of_ble_eq_true rfl) ?_
  refine AW.aload_n dX8_behind_0 rfl ?_
  refine AW.mA 9 W dX8_behind_1 lkX8_35 rfl rfl ?_
  refine AW.iconst dX8_behind_4 (by decide) ?_
  refine AW.iload_n dX8_behind_5 rfl ?_
  refine AW.imulB dX8_behind_6 (by omega) ?_
  refine AW.iload_n dX8_behind_7 rfl ?_
  refine AW.iaddB dX8_behind_8 (by omega) ?_
  refine AW.mldE (j := 9) W dX8_behind_9 rfl rfl (by simp only [mlen]; omega) rfl ?_
  refine AW.iret dX8_behind_10 rfl ?_
  exact k
def zned (Z : ZT) (s a f v : Int) : Int := if v = -1 ∧ ¬ f = -1 ∧ ¬ Z 6 (48 * (24 * s + a) + f).toNat = 0 then Z 4 (48 * s + f).toNat else v
theorem kX8_needed {s a f v : Int} (W : WfM h) (hs : 0 ≤ s ∧ s < 4) (ha : 0 ≤ a ∧ a ≤ 23) (hf : -1 ≤ f ∧ f < 48) (k : Q (mput h Z) (.inl (some (vi (zned Z s a f v))))) : AC mX8_needed fX8_needed loX8_needed 0 0 (mput h Z) [vr mO, vi s, vi a, vi f, vi v] Q := by
  refine AC.mk (by decide) (Nat.le_of_ble_eq_true rfl) ?_
  refine AW.iload dX8_needed_0 rfl ?_
  refine AW.iconst dX8_needed_2 (by decide) ?_
  refine' AW.icmp_neJ 41 (tgt := 39) dX8_needed_3 rfl _ _ _
  rotate_left 2
  · intro c_3 k_3
    refine AW.iload dX8_needed_39 rfl ?_
    exact k_3
  · intro c_3 k_3
    refine AW.iload_n dX8_needed_6 rfl ?_
    refine AW.iconst dX8_needed_7 (by decide) ?_
    refine' AW.icmp_eqJ 41 (tgt := 39) dX8_needed_8 rfl _ _ _
    rotate_left 2
    · intro c_8 k_8
      refine AW.iload dX8_needed_39 rfl ?_
      exact k_8
    · intro c_8 k_8
      refine AW.aload_n dX8_needed_11 rfl ?_
      refine AW.mA 6 W dX8_needed_12 lkX8_25 rfl rfl ?_
      refine AW.iload_n dX8_needed_15 rfl ?_
      refine AW.iload_n dX8_needed_16 rfl ?_
      refine AW.iload_n dX8_needed_17 rfl ?_
      refine AW.callS (as := [vi _, vi _, vi _]) dX8_needed_18 rfl rfl rfl okX8_place lkX8_152 rfl rfl rfl rfl rfl rfl (kX8_place (by omega) (AW.k1 ?_))
      refine AW.mldZE (j := 6) W dX8_needed_21 rfl rfl (by simp only [mlen]; omega) rfl ?_
      refine' AW.if_eqJ 41 (tgt := 39) dX8_needed_22 rfl _ _ _
      rotate_left 2
      · intro c_22 k_22
        refine AW.iload dX8_needed_39 rfl ?_
        exact k_22
      · intro c_22 k_22
        refine AW.aload_n dX8_needed_25 rfl ?_
        refine AW.mA 4 W dX8_needed_26 lkX8_19 rfl rfl ?_
        refine AW.bipush dX8_needed_29 bp_48 (by decide) ?_
        refine AW.iload_n dX8_needed_31 rfl ?_
        refine AW.imulB dX8_needed_32 (by omega) ?_
        refine AW.iload_n dX8_needed_33 rfl ?_
        refine AW.iaddB dX8_needed_34 (by omega) ?_
        refine AW.mldE (j := 4) W dX8_needed_35 rfl rfl (by simp only [mlen]; omega) rfl ?_
        refine AW.goto (tgt := 41) dX8_needed_36 rfl ?_
        exact k_22
      exact k_8
    exact k_3
  refine AW.iret dX8_needed_41 rfl ?_
  refine fin1 k rfl ?_
  unfold zned
  (repeat' split) <;> simp_all
def zkof (Z : ZT) (s f : Int) : Int := if f = -1 then 0 else Z 3 (48 * s + f).toNat
theorem kX8_kindOf {s f : Int} (W : WfM h) (hs : 0 ≤ s ∧ s < 4) (hf : -1 ≤ f ∧ f < 48) (k : Q (mput h Z) (.inl (some (vi (zkof Z s f))))) : AC mX8_kindOf fX8_kindOf loX8_kindOf 0 0 (mput h Z) [vr mO, vi s, vi f] Q := by
  refine AC.mk (by decide) (Nat.le_of_ble_eq_true rfl) ?_
  refine AW.iload_n dX8_kindOf_0 rfl ?_
  refine AW.iconst dX8_kindOf_1 (by decide) ?_
  refine' AW.icmp_neJ 20 (tgt := 9) dX8_kindOf_2 rfl _ _ _
  rotate_left 2
  · intro c_2 k_2
    refine AW.aload_n dX8_kindOf_9 rfl ?_
    refine AW.mA 3 W dX8_kindOf_10 lkX8_16 rfl rfl ?_
    refine AW.bipush dX8_kindOf_13 bp_48 (by decide) ?_
    refine AW.iload_n dX8_kindOf_15 rfl ?_
    refine AW.imulB dX8_kindOf_16 (by omega) ?_
    refine AW.iload_n dX8_kindOf_17 rfl ?_
    refine AW.iaddB dX8_kindOf_18 (by omega) ?_
    refine AW.mldE (j := 3) W dX8_kindOf_19 rfl rfl (by simp only [mlen]; omega) rfl ?_
    exact k_2
  · intro c_2 k_2
    refine AW.iconst dX8_kindOf_5 (by decide) ?_
    refine AW.goto (tgt := 20) dX8_kindOf_6 rfl ?_
    exact k_2
  refine AW.iret dX8_kindOf_20 rfl ?_
  refine fin1 k rfl ?_
  unfold zkof
  (repeat' split) <;> simp_all
def zU0r (Z : ZT) (s a x y : Int) : Int :=
  if Z 7 (24 * s + a).toNat = 0 then Z 4 (48 * s + zbe Z (24 * s + a) 0).toNat
  else if Z 7 (24 * s + a).toNat = 2 then ztur x (zkof Z s (zfr Z (24 * s + a) 0)) (zkof Z s (zbe Z (24 * s + a) 0))
  else if Z 7 (24 * s + a).toNat = 3 then (if x = -1 then -1 else x.tdiv (Z 10 (24 * s + a).toNat))
  else if Z 7 (24 * s + a).toNat = 4 then zjoi x y (Z 10 (24 * s + a).toNat)
  else if Z 7 (24 * s + a).toNat = 6 then x else -1
def zU1r (Z : ZT) (s a x : Int) : Int := if Z 7 (24 * s + a).toNat = 3 ∧ ¬ x = -1 then x.tmod (Z 10 (24 * s + a).toNat) else -1
def zU0 (Z : ZT) (s a x y : Int) : Int := if Z 7 (24 * s + a).toNat = 1 then -1 else zned Z s a (zbe Z (24 * s + a) 0) (zU0r Z s a x y)
def zU1 (Z : ZT) (s a x : Int) : Int := zned Z s a (zbe Z (24 * s + a) 1) (zU1r Z s a x)
def zD0r (Z : ZT) (s a x y : Int) : Int :=
  if Z 7 (24 * s + a).toNat = 2 then ztur x (zkof Z s (zbe Z (24 * s + a) 0)) (zkof Z s (zfr Z (24 * s + a) 0))
  else if Z 7 (24 * s + a).toNat = 3 then zjoi x y (Z 10 (24 * s + a).toNat)
  else if Z 7 (24 * s + a).toNat = 4 then (if x = -1 then -1 else x.tdiv (Z 10 (24 * s + a).toNat))
  else if Z 7 (24 * s + a).toNat = 6 then x else -1
def zD1r (Z : ZT) (s a x : Int) : Int := if Z 7 (24 * s + a).toNat = 4 ∧ ¬ x = -1 then x.tmod (Z 10 (24 * s + a).toNat) else -1
def zD0 (Z : ZT) (s a x y : Int) : Int := if Z 7 (24 * s + a).toNat = 1 then -1 else zned Z s (a - 1) (zfr Z (24 * s + a) 0) (zD0r Z s a x y)
def zD1 (Z : ZT) (s a x : Int) : Int := zned Z s (a - 1) (zfr Z (24 * s + a) 1) (zD1r Z s a x)
/-- a step that can be gone -/
def stp (Z : ZT) (p : Int) : Prop := (Z 7 p.toNat = 0 → 0 ≤ Z 9 (2 * p).toNat) ∧ (Z 7 p.toNat = 3 ∨ Z 7 p.toNat = 4 → 0 < Z 10 p.toNat)
theorem zs43 {t : Nat → Int} {a b c d : Int} : ∃ t', t' 0 = c ∧ t' 1 = d ∧ zs (zs (zs (zs (zrow Z 43 t) 43 0 a) 43 1 b) 43 0 c) 43 1 d = zrow Z 43 t' := by
  refine ⟨fun q => if q = 1 then d else if q = 0 then c else t q, rfl, rfl, ?_⟩
  rw [zs_zrow, zs_zrow, zs_zrow, zs_zrow]
  congr 1
  funext q
  by_cases e : q = 1
  · simp [e]
  · by_cases e2 : q = 0
    · simp [e2]
    · simp [e, e2]
set_option maxHeartbeats 1000000 in
theorem kX8_up {s a x y : Int} {t : Nat → Int} (W : WfM h) (B : BB Z) (hs : 0 ≤ s ∧ s < 4) (ha : 1 ≤ a ∧ a ≤ 23) (st : stp Z (24 * s + a)) (k : ∀ t', t' 0 = zU0 Z s a x y → t' 1 = zU1 Z s a x → Q (mput h (zrow Z 43 t')) (.inl none)) : AC mX8_up fX8_up loX8_up 0 0 (mput h (zrow Z 43 t)) [vr mO, vi s, vi a, vi x, vi y] Q := by
  have b0 := B (2 * (24 * s + a) + 0).toNat
  have b1 := B (2 * (24 * s + a) + 1).toNat
  have e0 : 2 * (24 * s + a) = 2 * (24 * s + a) + 0 := by omega
  obtain ⟨st1, st2⟩ := st
  rw [e0] at st1
  refine AC.mk (by decide) (Nat.le_of_ble_eq_true rfl) ?_
  refine AW.bipush dX8_up_0 bp_24 (by decide) ?_
  refine AW.iload_n dX8_up_2 rfl ?_
  refine AW.imulB dX8_up_3 (by omega) ?_
  refine AW.iload_n dX8_up_4 rfl ?_
  refine AW.iaddB dX8_up_5 (by omega) ?_
  refine AW.istore dX8_up_6 rfl ?_
  refine AW.aload_n dX8_up_8 rfl ?_
  refine AW.iload dX8_up_9 rfl ?_
  refine AW.iconst dX8_up_11 (by decide) ?_
  refine AW.callV (as := [vi _, vi _]) dX8_up_12 rfl rfl rfl okX8_behind lkX8_254 W.1 rfl rfl rfl rfl rfl rfl rfl (kX8_behind W (by omega) (by omega) (AW.k1 ?_))
  refine AW.top (y := zbe Z (24 * s + a) 0) rfl ?_
  have q0 : -1 ≤ zbe Z (24 * s + a) 0 ∧ zbe Z (24 * s + a) 0 < 48 := b0.2
  have q1 : -1 ≤ zfr Z (24 * s + a) 0 ∧ zfr Z (24 * s + a) 0 < 48 := b0.1
  have q2 : Z 7 (24 * s + a).toNat = 0 → 0 ≤ zbe Z (24 * s + a) 0 := st1
  refine AW.istore dX8_up_15 rfl ?_
  refine AW.aload_n dX8_up_17 rfl ?_
  refine AW.mA 7 W dX8_up_18 lkX8_29 rfl rfl ?_
  refine AW.iload dX8_up_21 rfl ?_
  refine AW.mldE (j := 7) W dX8_up_23 rfl rfl (by simp only [mlen]; omega) (by (repeat first | apply zs_ne rfl | apply zs_eq (by omega) | apply zs_miss (by omega) | apply zrow_ne rfl); exact rfl) ?_
  refine AW.istore dX8_up_24 rfl ?_
  refine AW.aload_n dX8_up_26 rfl ?_
  refine AW.mA 43 W dX8_up_27 lkX8_122 rfl rfl ?_
  refine AW.iconst dX8_up_30 (by decide) ?_
  refine AW.iload dX8_up_31 rfl ?_
  refine' AW.if_neJ 144 (tgt := 51) dX8_up_33 rfl _ _ _
  rotate_left 2
  · intro c_33 k_33
    refine AW.iload dX8_up_51 rfl ?_
    refine AW.iconst dX8_up_53 (by decide) ?_
    refine' AW.icmp_neJ 144 (tgt := 83) dX8_up_54 rfl _ _ _
    rotate_left 2
    · intro c_54 k_54
      refine AW.iload dX8_up_83 rfl ?_
      refine AW.iconst dX8_up_85 (by decide) ?_
      refine' AW.icmp_neJ 144 (tgt := 110) dX8_up_86 rfl _ _ _
      rotate_left 2
      · intro c_86 k_86
        refine AW.iload dX8_up_110 rfl ?_
        refine AW.iconst dX8_up_112 (by decide) ?_
        refine' AW.icmp_neJ 144 (tgt := 132) dX8_up_113 rfl _ _ _
        rotate_left 2
        · intro c_113 k_113
          refine AW.iload dX8_up_132 rfl ?_
          refine AW.bipush dX8_up_134 bp_6 (by decide) ?_
          refine' AW.icmp_neJ 144 (tgt := 143) dX8_up_136 rfl _ _ _
          rotate_left 2
          · intro c_136 k_136
            refine AW.iconst dX8_up_143 (by decide) ?_
            exact k_136
          · intro c_136 k_136
            refine AW.iload_n dX8_up_139 rfl ?_
            refine AW.goto (tgt := 144) dX8_up_140 rfl ?_
            exact k_136
          exact k_113
        · intro c_113 k_113
          refine AW.iload_n dX8_up_116 rfl ?_
          refine AW.iload dX8_up_117 rfl ?_
          refine AW.aload_n dX8_up_119 rfl ?_
          refine AW.mA 10 W dX8_up_120 lkX8_38 rfl rfl ?_
          refine AW.iload dX8_up_123 rfl ?_
          refine AW.mldE (j := 10) W dX8_up_125 rfl rfl (by simp only [mlen]; omega) (by (repeat first | apply zs_ne rfl | apply zs_eq (by omega) | apply zs_miss (by omega) | apply zrow_ne rfl); exact rfl) ?_
          refine AW.callS (as := [vi _, vi _, vi _]) dX8_up_126 rfl rfl rfl okX8_joined lkX8_200 rfl rfl rfl rfl rfl rfl (kX8_joined  (AW.k1 ?_))
          refine AW.goto (tgt := 144) dX8_up_129 rfl ?_
          exact k_113
        exact k_86
      · intro c_86 k_86
        refine AW.iload_n dX8_up_89 rfl ?_
        refine AW.iconst dX8_up_90 (by decide) ?_
        refine' AW.icmp_neJ 144 (tgt := 98) dX8_up_91 rfl _ _ _
        rotate_left 2
        · intro c_91 k_91
          refine AW.iload_n dX8_up_98 rfl ?_
          refine AW.aload_n dX8_up_99 rfl ?_
          refine AW.mA 10 W dX8_up_100 lkX8_38 rfl rfl ?_
          refine AW.iload dX8_up_103 rfl ?_
          refine AW.mldE (j := 10) W dX8_up_105 rfl rfl (by simp only [mlen]; omega) (by (repeat first | apply zs_ne rfl | apply zs_eq (by omega) | apply zs_miss (by omega) | apply zrow_ne rfl); exact rfl) ?_
          refine AW.idiv dX8_up_106 (by omega) ?_
          refine AW.goto (tgt := 144) dX8_up_107 rfl ?_
          exact k_91
        · intro c_91 k_91
          refine AW.iconst dX8_up_94 (by decide) ?_
          refine AW.goto (tgt := 144) dX8_up_95 rfl ?_
          exact k_91
        exact k_86
      exact k_54
    · intro c_54 k_54
      refine AW.iload_n dX8_up_57 rfl ?_
      refine AW.aload_n dX8_up_58 rfl ?_
      refine AW.iload_n dX8_up_59 rfl ?_
      refine AW.aload_n dX8_up_60 rfl ?_
      refine AW.iload dX8_up_61 rfl ?_
      refine AW.iconst dX8_up_63 (by decide) ?_
      refine AW.callV (as := [vi _, vi _]) dX8_up_64 rfl rfl rfl okX8_front lkX8_256 W.1 rfl rfl rfl rfl rfl rfl rfl (kX8_front W (by omega) (by omega) (AW.k1 ?_))
      refine AW.top (y := zfr Z (24 * s + a) 0) rfl ?_
      refine AW.callV (as := [vi _, vi _]) dX8_up_67 rfl rfl rfl okX8_kindOf lkX8_258 W.1 rfl rfl rfl rfl rfl rfl rfl (kX8_kindOf W (by omega) (by omega) (AW.k1 ?_))
      refine AW.aload_n dX8_up_70 rfl ?_
      refine AW.iload_n dX8_up_71 rfl ?_
      refine AW.iload dX8_up_72 rfl ?_
      refine AW.callV (as := [vi _, vi _]) dX8_up_74 rfl rfl rfl okX8_kindOf lkX8_258 W.1 rfl rfl rfl rfl rfl rfl rfl (kX8_kindOf W (by omega) (by omega) (AW.k1 ?_))
      refine AW.callS (as := [vi _, vi _, vi _]) dX8_up_77 rfl rfl rfl okX8_turned lkX8_191 rfl rfl rfl rfl rfl rfl (kX8_turned  (AW.k1 ?_))
      refine AW.goto (tgt := 144) dX8_up_80 rfl ?_
      exact k_54
    exact k_33
  · intro c_33 k_33
    refine AW.aload_n dX8_up_36 rfl ?_
    refine AW.mA 4 W dX8_up_37 lkX8_19 rfl rfl ?_
    refine AW.bipush dX8_up_40 bp_48 (by decide) ?_
    refine AW.iload_n dX8_up_42 rfl ?_
    refine AW.imulB dX8_up_43 (by omega) ?_
    refine AW.iload dX8_up_44 rfl ?_
    refine AW.iaddB dX8_up_46 (by omega) ?_
    refine AW.mldE (j := 4) W dX8_up_47 rfl rfl (by simp only [mlen]; omega) (by (repeat first | apply zs_ne rfl | apply zs_eq (by omega) | apply zs_miss (by omega) | apply zrow_ne rfl); exact rfl) ?_
    refine AW.goto (tgt := 144) dX8_up_48 rfl ?_
    exact k_33
  refine AW.top (y := zU0r Z s a x y) (by unfold zU0r; (repeat' split) <;> first | rfl | omega) ?_
  refine AW.mst (j := 43) W dX8_up_144 rfl rfl (by simp only [mlen]; omega) ?_
  refine AW.aload_n dX8_up_145 rfl ?_
  refine AW.mA 43 W dX8_up_146 lkX8_122 rfl rfl ?_
  refine AW.iconst dX8_up_149 (by decide) ?_
  refine AW.iload dX8_up_150 rfl ?_
  refine AW.iconst dX8_up_152 (by decide) ?_
  refine' AW.icmp_neJ 174 (tgt := 173) dX8_up_153 rfl _ _ _
  rotate_left 2
  · intro c_153 k_153
    refine AW.iconst dX8_up_173 (by decide) ?_
    exact k_153
  · intro c_153 k_153
    refine AW.iload_n dX8_up_156 rfl ?_
    refine AW.iconst dX8_up_157 (by decide) ?_
    refine' AW.icmp_eqJ 174 (tgt := 173) dX8_up_158 rfl _ _ _
    rotate_left 2
    · intro c_158 k_158
      refine AW.iconst dX8_up_173 (by decide) ?_
      exact k_158
    · intro c_158 k_158
      refine AW.iload_n dX8_up_161 rfl ?_
      refine AW.aload_n dX8_up_162 rfl ?_
      refine AW.mA 10 W dX8_up_163 lkX8_38 rfl rfl ?_
      refine AW.iload dX8_up_166 rfl ?_
      refine AW.mldE (j := 10) W dX8_up_168 rfl rfl (by simp only [mlen]; omega) (by (repeat first | apply zs_ne rfl | apply zs_eq (by omega) | apply zs_miss (by omega) | apply zrow_ne rfl); exact rfl) ?_
      refine AW.irem dX8_up_169 (by omega) ?_
      refine AW.goto (tgt := 174) dX8_up_170 rfl ?_
      exact k_158
    exact k_153
  refine AW.top (y := zU1r Z s a x) (by unfold zU1r; (repeat' split) <;> first | rfl | omega) ?_
  refine AW.mst (j := 43) W dX8_up_174 rfl rfl (by simp only [mlen]; omega) ?_
  refine AW.aload_n dX8_up_175 rfl ?_
  refine AW.mA 43 W dX8_up_176 lkX8_122 rfl rfl ?_
  refine AW.iconst dX8_up_179 (by decide) ?_
  refine AW.iload dX8_up_180 rfl ?_
  refine AW.iconst dX8_up_182 (by decide) ?_
  refine' AW.icmp_neJ 204 (tgt := 190) dX8_up_183 rfl _ _ _
  rotate_left 2
  · intro c_183 k_183
    refine AW.aload_n dX8_up_190 rfl ?_
    refine AW.iload_n dX8_up_191 rfl ?_
    refine AW.iload_n dX8_up_192 rfl ?_
    refine AW.iload dX8_up_193 rfl ?_
    refine AW.aload_n dX8_up_195 rfl ?_
    refine AW.mA 43 W dX8_up_196 lkX8_122 rfl rfl ?_
    refine AW.iconst dX8_up_199 (by decide) ?_
    refine AW.mldE (j := 43) W dX8_up_200 rfl rfl (by simp only [mlen]; omega) (by (repeat first | apply zs_ne rfl | apply zs_eq (by omega) | apply zs_miss (by omega) | apply zrow_ne rfl); exact rfl) ?_
    refine AW.callV (as := [vi _, vi _, vi _, vi _]) dX8_up_201 rfl rfl rfl okX8_needed lkX8_261 W.1 rfl rfl rfl rfl rfl rfl rfl (kX8_needed W (by omega) (by omega) (by omega) (AW.k1 ?_))
    exact k_183
  · intro c_183 k_183
    refine AW.iconst dX8_up_186 (by decide) ?_
    refine AW.goto (tgt := 204) dX8_up_187 rfl ?_
    exact k_183
  refine AW.top (y := zU0 Z s a x y) (by unfold zU0; (repeat' split) <;> first | rfl | omega) ?_
  refine AW.mst (j := 43) W dX8_up_204 rfl rfl (by simp only [mlen]; omega) ?_
  refine AW.aload_n dX8_up_205 rfl ?_
  refine AW.mA 43 W dX8_up_206 lkX8_122 rfl rfl ?_
  refine AW.iconst dX8_up_209 (by decide) ?_
  refine AW.aload_n dX8_up_210 rfl ?_
  refine AW.iload_n dX8_up_211 rfl ?_
  refine AW.iload_n dX8_up_212 rfl ?_
  refine AW.aload_n dX8_up_213 rfl ?_
  refine AW.iload dX8_up_214 rfl ?_
  refine AW.iconst dX8_up_216 (by decide) ?_
  refine AW.callV (as := [vi _, vi _]) dX8_up_217 rfl rfl rfl okX8_behind lkX8_254 W.1 rfl rfl rfl rfl rfl rfl rfl (kX8_behind W (by omega) (by omega) (AW.k1 ?_))
  refine AW.top (y := zbe Z (24 * s + a) 1) rfl ?_
  have q3 : -1 ≤ zbe Z (24 * s + a) 1 ∧ zbe Z (24 * s + a) 1 < 48 := b1.2
  refine AW.aload_n dX8_up_220 rfl ?_
  refine AW.mA 43 W dX8_up_221 lkX8_122 rfl rfl ?_
  refine AW.iconst dX8_up_224 (by decide) ?_
  refine AW.mldE (j := 43) W dX8_up_225 rfl rfl (by simp only [mlen]; omega) (by (repeat first | apply zs_ne rfl | apply zs_eq (by omega) | apply zs_miss (by omega) | apply zrow_ne rfl); exact rfl) ?_
  refine AW.callV (as := [vi _, vi _, vi _, vi _]) dX8_up_226 rfl rfl rfl okX8_needed lkX8_261 W.1 rfl rfl rfl rfl rfl rfl rfl (kX8_needed W (by omega) (by omega) (by omega) (AW.k1 ?_))
  refine AW.mst (j := 43) W dX8_up_229 rfl rfl (by simp only [mlen]; omega) ?_
  refine AW.vret dX8_up_230 rfl ?_
  obtain ⟨t', w1, w2, w3⟩ := zs43 (Z := Z) (t := t) (a := zU0r Z s a x y) (b := zU1r Z s a x) (c := zU0 Z s a x y) (d := zU1 Z s a x)
  exact finZ0 (k t' w1 w2) w3
set_option maxHeartbeats 1000000 in
theorem kX8_down {s a x y : Int} {t : Nat → Int} (W : WfM h) (B : BB Z) (hs : 0 ≤ s ∧ s < 4) (ha : 1 ≤ a ∧ a ≤ 23) (st : stp Z (24 * s + a)) (k : ∀ t', t' 0 = zD0 Z s a x y → t' 1 = zD1 Z s a x → Q (mput h (zrow Z 43 t')) (.inl none)) : AC mX8_down fX8_down loX8_down 0 0 (mput h (zrow Z 43 t)) [vr mO, vi s, vi a, vi x, vi y] Q := by
  have b0 := B (2 * (24 * s + a) + 0).toNat
  have b1 := B (2 * (24 * s + a) + 1).toNat
  obtain ⟨st1, st2⟩ := st
  refine AC.mk (by decide) (Nat.le_of_ble_eq_true rfl) ?_
  refine AW.bipush dX8_down_0 bp_24 (by decide) ?_
  refine AW.iload_n dX8_down_2 rfl ?_
  refine AW.imulB dX8_down_3 (by omega) ?_
  refine AW.iload_n dX8_down_4 rfl ?_
  refine AW.iaddB dX8_down_5 (by omega) ?_
  refine AW.istore dX8_down_6 rfl ?_
  refine AW.aload_n dX8_down_8 rfl ?_
  refine AW.iload dX8_down_9 rfl ?_
  refine AW.iconst dX8_down_11 (by decide) ?_
  refine AW.callV (as := [vi _, vi _]) dX8_down_12 rfl rfl rfl okX8_front lkX8_256 W.1 rfl rfl rfl rfl rfl rfl rfl (kX8_front W (by omega) (by omega) (AW.k1 ?_))
  refine AW.top (y := zfr Z (24 * s + a) 0) rfl ?_
  have q0 : -1 ≤ zbe Z (24 * s + a) 0 ∧ zbe Z (24 * s + a) 0 < 48 := b0.2
  have q1 : -1 ≤ zfr Z (24 * s + a) 0 ∧ zfr Z (24 * s + a) 0 < 48 := b0.1
  refine AW.istore dX8_down_15 rfl ?_
  refine AW.aload_n dX8_down_17 rfl ?_
  refine AW.mA 7 W dX8_down_18 lkX8_29 rfl rfl ?_
  refine AW.iload dX8_down_21 rfl ?_
  refine AW.mldE (j := 7) W dX8_down_23 rfl rfl (by simp only [mlen]; omega) (by (repeat first | apply zs_ne rfl | apply zs_eq (by omega) | apply zs_miss (by omega) | apply zrow_ne rfl); exact rfl) ?_
  refine AW.istore dX8_down_24 rfl ?_
  refine AW.aload_n dX8_down_26 rfl ?_
  refine AW.mA 43 W dX8_down_27 lkX8_122 rfl rfl ?_
  refine AW.iconst dX8_down_30 (by decide) ?_
  refine AW.iload dX8_down_31 rfl ?_
  refine AW.iconst dX8_down_33 (by decide) ?_
  refine' AW.icmp_neJ 124 (tgt := 63) dX8_down_34 rfl _ _ _
  rotate_left 2
  · intro c_34 k_34
    refine AW.iload dX8_down_63 rfl ?_
    refine AW.iconst dX8_down_65 (by decide) ?_
    refine' AW.icmp_neJ 124 (tgt := 85) dX8_down_66 rfl _ _ _
    rotate_left 2
    · intro c_66 k_66
      refine AW.iload dX8_down_85 rfl ?_
      refine AW.iconst dX8_down_87 (by decide) ?_
      refine' AW.icmp_neJ 124 (tgt := 112) dX8_down_88 rfl _ _ _
      rotate_left 2
      · intro c_88 k_88
        refine AW.iload dX8_down_112 rfl ?_
        refine AW.bipush dX8_down_114 bp_6 (by decide) ?_
        refine' AW.icmp_neJ 124 (tgt := 123) dX8_down_116 rfl _ _ _
        rotate_left 2
        · intro c_116 k_116
          refine AW.iconst dX8_down_123 (by decide) ?_
          exact k_116
        · intro c_116 k_116
          refine AW.iload_n dX8_down_119 rfl ?_
          refine AW.goto (tgt := 124) dX8_down_120 rfl ?_
          exact k_116
        exact k_88
      · intro c_88 k_88
        refine AW.iload_n dX8_down_91 rfl ?_
        refine AW.iconst dX8_down_92 (by decide) ?_
        refine' AW.icmp_neJ 124 (tgt := 100) dX8_down_93 rfl _ _ _
        rotate_left 2
        · intro c_93 k_93
          refine AW.iload_n dX8_down_100 rfl ?_
          refine AW.aload_n dX8_down_101 rfl ?_
          refine AW.mA 10 W dX8_down_102 lkX8_38 rfl rfl ?_
          refine AW.iload dX8_down_105 rfl ?_
          refine AW.mldE (j := 10) W dX8_down_107 rfl rfl (by simp only [mlen]; omega) (by (repeat first | apply zs_ne rfl | apply zs_eq (by omega) | apply zs_miss (by omega) | apply zrow_ne rfl); exact rfl) ?_
          refine AW.idiv dX8_down_108 (by omega) ?_
          refine AW.goto (tgt := 124) dX8_down_109 rfl ?_
          exact k_93
        · intro c_93 k_93
          refine AW.iconst dX8_down_96 (by decide) ?_
          refine AW.goto (tgt := 124) dX8_down_97 rfl ?_
          exact k_93
        exact k_88
      exact k_66
    · intro c_66 k_66
      refine AW.iload_n dX8_down_69 rfl ?_
      refine AW.iload dX8_down_70 rfl ?_
      refine AW.aload_n dX8_down_72 rfl ?_
      refine AW.mA 10 W dX8_down_73 lkX8_38 rfl rfl ?_
      refine AW.iload dX8_down_76 rfl ?_
      refine AW.mldE (j := 10) W dX8_down_78 rfl rfl (by simp only [mlen]; omega) (by (repeat first | apply zs_ne rfl | apply zs_eq (by omega) | apply zs_miss (by omega) | apply zrow_ne rfl); exact rfl) ?_
      refine AW.callS (as := [vi _, vi _, vi _]) dX8_down_79 rfl rfl rfl okX8_joined lkX8_200 rfl rfl rfl rfl rfl rfl (kX8_joined  (AW.k1 ?_))
      refine AW.goto (tgt := 124) dX8_down_82 rfl ?_
      exact k_66
    exact k_34
  · intro c_34 k_34
    refine AW.iload_n dX8_down_37 rfl ?_
    refine AW.aload_n dX8_down_38 rfl ?_
    refine AW.iload_n dX8_down_39 rfl ?_
    refine AW.aload_n dX8_down_40 rfl ?_
    refine AW.iload dX8_down_41 rfl ?_
    refine AW.iconst dX8_down_43 (by decide) ?_
    refine AW.callV (as := [vi _, vi _]) dX8_down_44 rfl rfl rfl okX8_behind lkX8_254 W.1 rfl rfl rfl rfl rfl rfl rfl (kX8_behind W (by omega) (by omega) (AW.k1 ?_))
    refine AW.top (y := zbe Z (24 * s + a) 0) rfl ?_
    refine AW.callV (as := [vi _, vi _]) dX8_down_47 rfl rfl rfl okX8_kindOf lkX8_258 W.1 rfl rfl rfl rfl rfl rfl rfl (kX8_kindOf W (by omega) (by omega) (AW.k1 ?_))
    refine AW.aload_n dX8_down_50 rfl ?_
    refine AW.iload_n dX8_down_51 rfl ?_
    refine AW.iload dX8_down_52 rfl ?_
    refine AW.callV (as := [vi _, vi _]) dX8_down_54 rfl rfl rfl okX8_kindOf lkX8_258 W.1 rfl rfl rfl rfl rfl rfl rfl (kX8_kindOf W (by omega) (by omega) (AW.k1 ?_))
    refine AW.callS (as := [vi _, vi _, vi _]) dX8_down_57 rfl rfl rfl okX8_turned lkX8_191 rfl rfl rfl rfl rfl rfl (kX8_turned  (AW.k1 ?_))
    refine AW.goto (tgt := 124) dX8_down_60 rfl ?_
    exact k_34
  refine AW.top (y := zD0r Z s a x y) (by unfold zD0r; (repeat' split) <;> first | rfl | omega) ?_
  refine AW.mst (j := 43) W dX8_down_124 rfl rfl (by simp only [mlen]; omega) ?_
  refine AW.aload_n dX8_down_125 rfl ?_
  refine AW.mA 43 W dX8_down_126 lkX8_122 rfl rfl ?_
  refine AW.iconst dX8_down_129 (by decide) ?_
  refine AW.iload dX8_down_130 rfl ?_
  refine AW.iconst dX8_down_132 (by decide) ?_
  refine' AW.icmp_neJ 154 (tgt := 153) dX8_down_133 rfl _ _ _
  rotate_left 2
  · intro c_133 k_133
    refine AW.iconst dX8_down_153 (by decide) ?_
    exact k_133
  · intro c_133 k_133
    refine AW.iload_n dX8_down_136 rfl ?_
    refine AW.iconst dX8_down_137 (by decide) ?_
    refine' AW.icmp_eqJ 154 (tgt := 153) dX8_down_138 rfl _ _ _
    rotate_left 2
    · intro c_138 k_138
      refine AW.iconst dX8_down_153 (by decide) ?_
      exact k_138
    · intro c_138 k_138
      refine AW.iload_n dX8_down_141 rfl ?_
      refine AW.aload_n dX8_down_142 rfl ?_
      refine AW.mA 10 W dX8_down_143 lkX8_38 rfl rfl ?_
      refine AW.iload dX8_down_146 rfl ?_
      refine AW.mldE (j := 10) W dX8_down_148 rfl rfl (by simp only [mlen]; omega) (by (repeat first | apply zs_ne rfl | apply zs_eq (by omega) | apply zs_miss (by omega) | apply zrow_ne rfl); exact rfl) ?_
      refine AW.irem dX8_down_149 (by omega) ?_
      refine AW.goto (tgt := 154) dX8_down_150 rfl ?_
      exact k_138
    exact k_133
  refine AW.top (y := zD1r Z s a x) (by unfold zD1r; (repeat' split) <;> first | rfl | omega) ?_
  refine AW.mst (j := 43) W dX8_down_154 rfl rfl (by simp only [mlen]; omega) ?_
  refine AW.aload_n dX8_down_155 rfl ?_
  refine AW.mA 43 W dX8_down_156 lkX8_122 rfl rfl ?_
  refine AW.iconst dX8_down_159 (by decide) ?_
  refine AW.iload dX8_down_160 rfl ?_
  refine AW.iconst dX8_down_162 (by decide) ?_
  refine' AW.icmp_neJ 186 (tgt := 170) dX8_down_163 rfl _ _ _
  rotate_left 2
  · intro c_163 k_163
    refine AW.aload_n dX8_down_170 rfl ?_
    refine AW.iload_n dX8_down_171 rfl ?_
    refine AW.iload_n dX8_down_172 rfl ?_
    refine AW.iconst dX8_down_173 (by decide) ?_
    refine AW.isubB dX8_down_174 (by omega) ?_
    refine AW.iload dX8_down_175 rfl ?_
    refine AW.aload_n dX8_down_177 rfl ?_
    refine AW.mA 43 W dX8_down_178 lkX8_122 rfl rfl ?_
    refine AW.iconst dX8_down_181 (by decide) ?_
    refine AW.mldE (j := 43) W dX8_down_182 rfl rfl (by simp only [mlen]; omega) (by (repeat first | apply zs_ne rfl | apply zs_eq (by omega) | apply zs_miss (by omega) | apply zrow_ne rfl); exact rfl) ?_
    refine AW.callV (as := [vi _, vi _, vi _, vi _]) dX8_down_183 rfl rfl rfl okX8_needed lkX8_261 W.1 rfl rfl rfl rfl rfl rfl rfl (kX8_needed W (by omega) (by omega) (by omega) (AW.k1 ?_))
    exact k_163
  · intro c_163 k_163
    refine AW.iconst dX8_down_166 (by decide) ?_
    refine AW.goto (tgt := 186) dX8_down_167 rfl ?_
    exact k_163
  refine AW.top (y := zD0 Z s a x y) (by unfold zD0; (repeat' split) <;> first | rfl | omega) ?_
  refine AW.mst (j := 43) W dX8_down_186 rfl rfl (by simp only [mlen]; omega) ?_
  refine AW.aload_n dX8_down_187 rfl ?_
  refine AW.mA 43 W dX8_down_188 lkX8_122 rfl rfl ?_
  refine AW.iconst dX8_down_191 (by decide) ?_
  refine AW.aload_n dX8_down_192 rfl ?_
  refine AW.iload_n dX8_down_193 rfl ?_
  refine AW.iload_n dX8_down_194 rfl ?_
  refine AW.iconst dX8_down_195 (by decide) ?_
  refine AW.isubB dX8_down_196 (by omega) ?_
  refine AW.aload_n dX8_down_197 rfl ?_
  refine AW.iload dX8_down_198 rfl ?_
  refine AW.iconst dX8_down_200 (by decide) ?_
  refine AW.callV (as := [vi _, vi _]) dX8_down_201 rfl rfl rfl okX8_front lkX8_256 W.1 rfl rfl rfl rfl rfl rfl rfl (kX8_front W (by omega) (by omega) (AW.k1 ?_))
  refine AW.top (y := zfr Z (24 * s + a) 1) rfl ?_
  have q3 : -1 ≤ zfr Z (24 * s + a) 1 ∧ zfr Z (24 * s + a) 1 < 48 := b1.1
  refine AW.aload_n dX8_down_204 rfl ?_
  refine AW.mA 43 W dX8_down_205 lkX8_122 rfl rfl ?_
  refine AW.iconst dX8_down_208 (by decide) ?_
  refine AW.mldE (j := 43) W dX8_down_209 rfl rfl (by simp only [mlen]; omega) (by (repeat first | apply zs_ne rfl | apply zs_eq (by omega) | apply zs_miss (by omega) | apply zrow_ne rfl); exact rfl) ?_
  refine AW.callV (as := [vi _, vi _, vi _, vi _]) dX8_down_210 rfl rfl rfl okX8_needed lkX8_261 W.1 rfl rfl rfl rfl rfl rfl rfl (kX8_needed W (by omega) (by omega) (by omega) (AW.k1 ?_))
  refine AW.mst (j := 43) W dX8_down_213 rfl rfl (by simp only [mlen]; omega) ?_
  refine AW.vret dX8_down_214 rfl ?_
  obtain ⟨t', w1, w2, w3⟩ := zs43 (Z := Z) (t := t) (a := zD0r Z s a x y) (b := zD1r Z s a x) (c := zD0 Z s a x y) (d := zD1 Z s a x)
  exact finZ0 (k t' w1 w2) w3
def zG0 (Z : ZT) (u s a x y : Int) : Int := if u = 0 then zD0 Z s a x y else zU0 Z s a x y
def zG1 (Z : ZT) (u s a x : Int) : Int := if u = 0 then zD1 Z s a x else zU1 Z s a x
theorem kX8_goes {u s a x y : Int} {t : Nat → Int} (W : WfM h) (B : BB Z) (hs : 0 ≤ s ∧ s < 4) (ha : 1 ≤ a ∧ a ≤ 23) (st : stp Z (24 * s + a)) (k : ∀ t', t' 0 = zG0 Z u s a x y → t' 1 = zG1 Z u s a x → Q (mput h (zrow Z 43 t')) (.inl none)) : AC mX8_goes fX8_goes loX8_goes 0 0 (mput h (zrow Z 43 t)) [vr mO, vi u, vi s, vi a, vi x, vi y] Q := by
  refine AC.mk (by decide) (Nat.le_of_ble_eq_true rfl) ?_
  refine AW.iload_n dX8_goes_0 rfl ?_
  refine AW.if_eq (tgt := 17) dX8_goes_1 rfl (fun c_1 => ?_) (fun c_1 => ?_)
  · refine AW.aload_n dX8_goes_17 rfl ?_
    refine AW.iload_n dX8_goes_18 rfl ?_
    refine AW.iload_n dX8_goes_19 rfl ?_
    refine AW.iload dX8_goes_20 rfl ?_
    refine AW.iload dX8_goes_22 rfl ?_
    refine AW.callV (as := [vi _, vi _, vi _, vi _]) dX8_goes_24 rfl rfl rfl okX8_down lkX8_269 W.1 rfl rfl rfl rfl rfl rfl rfl (kX8_down W B hs ha st (fun t' e1 e2 => (AW.k0 ?_)))
    refine AW.vret dX8_goes_27 rfl ?_
    refine k t' ?_ ?_
    · unfold zG0; first | rw [if_pos c_1]; exact e1 | rw [if_neg c_1]; exact e1
    · unfold zG1; first | rw [if_pos c_1]; exact e2 | rw [if_neg c_1]; exact e2
  · refine AW.aload_n dX8_goes_4 rfl ?_
    refine AW.iload_n dX8_goes_5 rfl ?_
    refine AW.iload_n dX8_goes_6 rfl ?_
    refine AW.iload dX8_goes_7 rfl ?_
    refine AW.iload dX8_goes_9 rfl ?_
    refine AW.callV (as := [vi _, vi _, vi _, vi _]) dX8_goes_11 rfl rfl rfl okX8_up lkX8_265 W.1 rfl rfl rfl rfl rfl rfl rfl (kX8_up W B hs ha st (fun t' e1 e2 => (AW.k0 ?_)))
    refine AW.goto (tgt := 27) dX8_goes_14 rfl ?_
    refine AW.vret dX8_goes_27 rfl ?_
    refine k t' ?_ ?_
    · unfold zG0; first | rw [if_pos c_1]; exact e1 | rw [if_neg c_1]; exact e1
    · unfold zG1; first | rw [if_pos c_1]; exact e2 | rw [if_neg c_1]; exact e2
def zon (Z : ZT) (p u j : Int) : Int := if Z 7 p.toNat = 1 then -1 else if u = 0 then zbe Z p j else zfr Z p j
theorem kX8_onSide {p u j : Int} (W : WfM h) (hp : 0 ≤ p ∧ p < 96) (hj : 0 ≤ j ∧ j ≤ 1) (k : Q (mput h Z) (.inl (some (vi (zon Z p u j))))) : AC mX8_onSide fX8_onSide loX8_onSide 0 0 (mput h Z) [vr mO, vi p, vi u, vi j] Q := by
  refine AC.mk (by decide) (Nat.le_of_ble_eq_true rfl) ?_
  refine AW.aload_n dX8_onSide_0 rfl ?_
  refine AW.mA 7 W dX8_onSide_1 lkX8_29 rfl rfl ?_
  refine AW.iload_n dX8_onSide_4 rfl ?_
  refine AW.mldE (j := 7) W dX8_onSide_5 rfl rfl (by simp only [mlen]; omega) rfl ?_
  refine AW.iconst dX8_onSide_6 (by decide) ?_
  refine' AW.icmp_neJ 33 (tgt := 14) dX8_onSide_7 rfl _ _ _
  rotate_left 2
  · intro c_7 k_7
    refine AW.iload_n dX8_onSide_14 rfl ?_
    refine' AW.if_eqJ 33 (tgt := 27) dX8_onSide_15 rfl _ _ _
    rotate_left 2
    · intro c_15 k_15
      refine AW.aload_n dX8_onSide_27 rfl ?_
      refine AW.iload_n dX8_onSide_28 rfl ?_
      refine AW.iload_n dX8_onSide_29 rfl ?_
      refine AW.callV (as := [vi _, vi _]) dX8_onSide_30 rfl rfl rfl okX8_behind lkX8_254 W.1 rfl rfl rfl rfl rfl rfl rfl (kX8_behind W (by omega) (by omega) (AW.k1 ?_))
      exact k_15
    · intro c_15 k_15
      refine AW.aload_n dX8_onSide_18 rfl ?_
      refine AW.iload_n dX8_onSide_19 rfl ?_
      refine AW.iload_n dX8_onSide_20 rfl ?_
      refine AW.callV (as := [vi _, vi _]) dX8_onSide_21 rfl rfl rfl okX8_front lkX8_256 W.1 rfl rfl rfl rfl rfl rfl rfl (kX8_front W (by omega) (by omega) (AW.k1 ?_))
      refine AW.goto (tgt := 33) dX8_onSide_24 rfl ?_
      exact k_15
    exact k_7
  · intro c_7 k_7
    refine AW.iconst dX8_onSide_10 (by decide) ?_
    refine AW.goto (tgt := 33) dX8_onSide_11 rfl ?_
    exact k_7
  refine AW.iret dX8_onSide_33 rfl ?_
  refine fin1 k rfl ?_
  unfold zon
  (repeat' split) <;> first | rfl | omega
end M13

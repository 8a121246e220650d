/-! ===== the model: standing, row, mover, the next row ===== -/
section M19
variable {Q : AH → AO → Prop} {h : AH} {Z : ZT}
def zstA (Z : ZT) (r : Int) : Nat → Int
  | 0 => 0
  | i + 1 => zstA Z r i + (if 0 < Z 24 (24 * r + (i : Int)).toNat then 1 else 0)
theorem zstA_rng {r : Int} : ∀ i : Nat, 0 ≤ zstA Z r i ∧ zstA Z r i ≤ i
  | 0 => ⟨by show (0 : Int) ≤ 0; omega, by show (0 : Int) ≤ 0; omega⟩
  | i + 1 => by
    have := zstA_rng (r := r) i
    unfold zstA; split <;> omega
theorem zstA_c {Z' : ZT} {r : Int} (e : Z' 24 = Z 24) : ∀ k, zstA Z' r k = zstA Z r k
  | 0 => rfl
  | k + 1 => by unfold zstA; rw [e, zstA_c e k]
def zStd (Z : ZT) (r : Int) : Int := wr (10000 * Z 21 r.toNat + 100 * zstA Z r 24 + Z 23 r.toNat)
theorem kX8_standing {r : Int} (W : WfM h) (B : BI Z) (R : BR Z) (kE : ¬ (0 ≤ r ∧ r ≤ Z 19 0 - 1) → Q (mput h (zs Z 48 0 1)) (.inl (some (vi 0))))
    (kO : (0 ≤ r ∧ r ≤ Z 19 0 - 1) → Q (mput h (zs Z 48 0 0)) (.inl (some (vi (zStd Z r))))) : AC mX8_standing fX8_standing loX8_standing 0 0 (mput h Z) [vr mO, vi r] Q := by
  have R0 := R.1
  refine AC.mk (by decide) (Nat.le_of_ble_eq_true rfl) ?_
  have lp : (0 ≤ r ∧ r ≤ Z 19 0 - 1) → ∀ (m i : Nat), i ≤ 24 → 24 ≤ i + m → AW mX8_standing fX8_standing loX8_standing 0 0 Q 0 0 26 (mput h (zs Z 48 0 0)) [(3, vi (i : Int)), (2, vi (zstA Z r i)), (0, vr mO), (1, vi r)] [] := by
    intro hr m
    have rb := R.2 r.toNat (by omega)
    have sb := B.1.2 (Z 20 r.toNat).toNat (by omega)
    induction m with
    | zero =>
      intro i h1 h2
      have e : i = 24 := by omega
      subst e
      have hs := zstA_rng (Z := Z) (r := r) 24
      refine AW.iload_n dX8_standing_26 rfl ?_
      refine AW.bipush dX8_standing_27 bp_24 (by decide) ?_
      refine AW.icmp_ge (tgt := 60) dX8_standing_29 rfl (fun c_29 => ?_) (fun c_29 => ?_)
      · refine AW.sipush dX8_standing_60 sp_10000 (by decide) ?_
        refine AW.aload_n dX8_standing_63 rfl ?_
        refine AW.mA 21 W dX8_standing_64 lkX8_65 rfl rfl ?_
        refine AW.iload_n dX8_standing_67 rfl ?_
        refine AW.mldE (j := 21) W dX8_standing_68 rfl rfl (by simp only [mlen]; omega) (by (repeat first | apply zs_ne rfl | apply zs_eq (by omega) | apply zs_miss (by omega)); exact rfl) ?_
        refine AW.imulB dX8_standing_69 (by omega) ?_
        refine AW.bipush dX8_standing_70 bp_100 (by decide) ?_
        refine AW.iload_n dX8_standing_72 rfl ?_
        refine AW.imulB dX8_standing_73 (by omega) ?_
        refine AW.iaddB dX8_standing_74 (by omega) ?_
        refine AW.aload_n dX8_standing_75 rfl ?_
        refine AW.mA 23 W dX8_standing_76 lkX8_71 rfl rfl ?_
        refine AW.iload_n dX8_standing_79 rfl ?_
        refine AW.mldE (j := 23) W dX8_standing_80 rfl rfl (by simp only [mlen]; omega) (by (repeat first | apply zs_ne rfl | apply zs_eq (by omega) | apply zs_miss (by omega)); exact rfl) ?_
        refine AW.iadd dX8_standing_81 ?_
        refine AW.iret dX8_standing_82 rfl ?_
        exact kO hr
      · exact absurd c_29 (by omega)
    | succ m ih =>
      intro i h1 h2
      by_cases e : i = 24
      · exact ih i h1 (by omega)
      have hs := zstA_rng (Z := Z) (r := r) i
      refine AW.iload_n dX8_standing_26 rfl ?_
      refine AW.bipush dX8_standing_27 bp_24 (by decide) ?_
      refine AW.icmp_ge (tgt := 60) dX8_standing_29 rfl (fun c_29 => ?_) (fun c_29 => ?_)
      · exact absurd c_29 (by omega)
      · refine AW.iload_n dX8_standing_32 rfl ?_
        refine AW.aload_n dX8_standing_33 rfl ?_
        refine AW.mA 24 W dX8_standing_34 lkX8_74 rfl rfl ?_
        refine AW.bipush dX8_standing_37 bp_24 (by decide) ?_
        refine AW.iload_n dX8_standing_39 rfl ?_
        refine AW.imulB dX8_standing_40 (by omega) ?_
        refine AW.iload_n dX8_standing_41 rfl ?_
        refine AW.iaddB dX8_standing_42 (by omega) ?_
        refine AW.mldE (j := 24) W dX8_standing_43 rfl rfl (by simp only [mlen]; omega) (by (repeat first | apply zs_ne rfl | apply zs_eq (by omega) | apply zs_miss (by omega)); exact rfl) ?_
        refine' AW.if_leJ 52 (tgt := 51) dX8_standing_44 rfl _ _ _
        rotate_left 2
        · intro c_44 k_44
          refine AW.iconst dX8_standing_51 (by decide) ?_
          exact k_44
        · intro c_44 k_44
          refine AW.iconst dX8_standing_47 (by decide) ?_
          refine AW.goto (tgt := 52) dX8_standing_48 rfl ?_
          exact k_44
        refine AW.iaddB dX8_standing_52 (by split <;> omega) (AW.top (y := zstA Z r (i + 1)) (by rw [zstA]; congr 1; (repeat' split) <;> first | rfl | omega) ?_)
        refine AW.istore_n dX8_standing_53 rfl ?_
        refine AW.iincB dX8_standing_54 rfl rfl (by omega) ?_
        refine AW.goto (tgt := 26) dX8_standing_57 rfl ?_
        exact AW.locs [(3, vi ((i + 1 : Nat) : Int)), (2, vi (zstA Z r (i + 1))), (0, vr mO), (1, vi r)] ⟨rfl, rfl, rfl, rfl, trivial⟩ (ih (i + 1) (by omega) (by omega))
  refine AW.aload_n dX8_standing_0 rfl ?_
  refine AW.aload_n dX8_standing_1 rfl ?_
  refine AW.iload_n dX8_standing_2 rfl ?_
  refine AW.callV (as := [vi _]) dX8_standing_3 rfl rfl rfl okX8_isRow lkX8_296 W.1 rfl rfl rfl rfl rfl rfl rfl (kX8_isRow W (by assumption) (AW.k1 ?_))
  refine' AW.if_eqJ 14 (tgt := 13) dX8_standing_6 rfl _ _ _
  rotate_left 2
  · intro c_6 k_6
    refine AW.iconst dX8_standing_13 (by decide) ?_
    exact k_6
  · intro c_6 k_6
    refine AW.iconst dX8_standing_9 (by decide) ?_
    refine AW.goto (tgt := 14) dX8_standing_10 rfl ?_
    exact k_6
  refine AW.top (y := bz (¬ (0 ≤ r ∧ r ≤ Z 19 0 - 1))) (by simp only [bz_0]; unfold bz; (repeat' split) <;> simp_all) ?_
  refine AW.callV (as := [vi _]) dX8_standing_14 rfl rfl rfl okX8_fails lkX8_162 W.1 rfl rfl rfl rfl rfl rfl rfl (kX8_fails W (AW.k1 ?_))
  refine AW.if_eq (tgt := 22) dX8_standing_17 rfl (fun c_17 => ?_) (fun c_17 => ?_)
  · have c := bz_0.mp c_17
    have e : ¬ ¬ (0 ≤ r ∧ r ≤ Z 19 0 - 1) := bz_0.mp (by have := bz01 (¬ (0 ≤ r ∧ r ≤ Z 19 0 - 1)); omega)
    rw [bz_0.mpr e]
    refine AW.iconst dX8_standing_22 (by decide) ?_
    refine AW.istore_n dX8_standing_23 rfl ?_
    refine AW.iconst dX8_standing_24 (by decide) ?_
    refine AW.istore_n dX8_standing_25 rfl ?_
    exact lp (Classical.not_not.mp e) 24 0 (by omega) (by omega)
  · have c := bz_n0.mp c_17
    have e : ¬ (0 ≤ r ∧ r ≤ Z 19 0 - 1) := bz_n0.mp (by omega)
    rw [bz_1.mpr e]
    refine AW.iconst dX8_standing_20 (by decide) ?_
    refine AW.iret dX8_standing_21 rfl ?_
    exact kE e
/-- the first n of a block -/
def zfl (Z : ZT) (j d : Nat) (f : Nat → Int) (n : Nat) : ZT := fun j' i => if j' = j ∧ d ≤ i ∧ i < d + n then f (i - d) else Z j' i
theorem zfl_0 {j d : Nat} {f : Nat → Int} : zfl Z j d f 0 = Z := by
  funext a b; unfold zfl; rw [if_neg]; rintro ⟨-, e1, e2⟩; omega
theorem zfl_ne {j d n j' i' : Nat} {f : Nat → Int} {x : Int} (hj : Nat.beq j' j = false) (k : Z j' i' = x) : zfl Z j d f n j' i' = x := by
  unfold zfl
  rw [if_neg, k]
  rintro ⟨rfl, -⟩
  simp at hj
theorem zfl_step {j d n i : Nat} {f : Nat → Int} {v : Int} (hi : i = d + n) (hv : v = f n) : zs (zfl Z j d f n) j i v = zfl Z j d f (n + 1) := by
  subst hi; subst hv
  funext a b
  unfold zs zfl
  by_cases e : a = j ∧ b = d + n
  · rw [if_pos e, if_pos ⟨e.1, by omega, by omega⟩, e.2]
    congr 1; omega
  · rw [if_neg e]
    by_cases e2 : a = j ∧ d ≤ b ∧ b < d + n
    · rw [if_pos e2, if_pos ⟨e2.1, by omega, by omega⟩]
    · rw [if_neg e2, if_neg]
      rintro ⟨z1, z2, z3⟩
      refine e2 ⟨z1, z2, ?_⟩
      have := fun z => e ⟨z1, z⟩
      omega
def zrwV (Z : ZT) (s v : Int) (i : Nat) : Int := if (i : Int) < Z 2 s.toNat ∧ ¬ Z 5 (48 * (24 * s + v) + (i : Int)).toNat = -1 ∧ ¬ Z 6 (48 * (24 * s + v) + (i : Int)).toNat = 0 then Z 4 (48 * s + (i : Int)).toNat else -1
def zcVer (Z : ZT) (s v : Int) (c : Prop) [Decidable c] : Int := cd2 (¬ ((0 ≤ s ∧ s < Z 0 0) ∧ 0 ≤ v ∧ v ≤ Z 1 s.toNat)) c
def zRow0 (Z : ZT) (s v : Int) : ZT := zs (zs (zs Z 48 0 0) 20 (Z 19 0).toNat s) 21 (Z 19 0).toNat v
def zRow (Z : ZT) (s v : Int) : ZT := zs (zcnt (zfl (zRow0 Z s v) 22 (48 * (Z 19 0).toNat) (zrwV Z s v) 48) (Z 19 0)) 19 0 (Z 19 0 + 1)
set_option maxHeartbeats 1000000 in
theorem kX8_row {s v : Int} (W : WfM h) (B : BI Z) (R : BR Z) (kE : 0 < zcVer Z s v (Z 19 0 = 20) → Q (mput h (zs Z 48 0 (zcVer Z s v (Z 19 0 = 20)))) (.inl (some (vi 0))))
    (kO : zcVer Z s v (Z 19 0 = 20) = 0 → Q (mput h (zRow Z s v)) (.inl (some (vi (Z 19 0))))) : AC mX8_row fX8_row loX8_row 0 0 (mput h Z) [vr mO, vi s, vi v] Q := by
  have R0 := R.1
  have B0 := B.1.1
  refine AC.mk (by decide) (Nat.le_of_ble_eq_true rfl) ?_
  have lp : zcVer Z s v (Z 19 0 = 20) = 0 → Z 19 0 < 20 → (0 ≤ s ∧ s < 4) → (0 ≤ v ∧ v ≤ 23) → ∀ (m i : Nat) c3, i ≤ 48 → 48 ≤ i + m → AW mX8_row fX8_row loX8_row 0 0 Q 0 0 61 (mput h (zfl (zRow0 Z s v) 22 (48 * (Z 19 0).toNat) (zrwV Z s v) i)) [(4, vi (i : Int)), (3, vi c3), (0, vr mO), (1, vi s), (2, vi v)] [] := by
    intro ec hr hs hv m
    have sb := B.1.2 s.toNat (by omega)
    induction m with
    | zero =>
      intro i c3 h1 h2
      have e : i = 48 := by omega
      subst e
      have e19 : zcnt (zfl (zRow0 Z s v) 22 (48 * (Z 19 0).toNat) (zrwV Z s v) 48) (Z 19 0) 19 0 = Z 19 0 := zs_ne rfl (zs_ne rfl (zfl_ne rfl rfl))
      refine AW.iload dX8_row_61 rfl ?_
      refine AW.bipush dX8_row_63 bp_48 (by decide) ?_
      refine AW.icmp_ge (tgt := 159) dX8_row_65 rfl (fun c_65 => ?_) (fun c_65 => ?_)
      · refine AW.aload_n dX8_row_159 rfl ?_
        refine AW.aload_n dX8_row_160 rfl ?_
        refine AW.mSE 19 W dX8_row_161 lkX8_293 rfl rfl (by (repeat first | apply zs_ne rfl | apply zs_eq (by omega) | apply zs_miss (by omega) | apply zfl_ne rfl); exact rfl) ?_
        refine AW.callV (as := [vi _]) dX8_row_164 rfl rfl rfl okX8_counts lkX8_302 W.1 rfl rfl rfl rfl rfl rfl rfl (kX8_counts W (by omega) (AW.k0 ?_))
        refine AW.aload_n dX8_row_167 rfl ?_
        refine AW.dup dX8_row_168 rfl ?_
        refine AW.mSE 19 W dX8_row_169 lkX8_293 rfl rfl (by exact e19) ?_
        refine AW.iconst dX8_row_172 (by decide) ?_
        refine AW.iaddB dX8_row_173 (by omega) ?_
        refine AW.mSp 19 W dX8_row_174 lkX8_293 rfl rfl rfl ?_
        refine AW.aload_n dX8_row_177 rfl ?_
        refine AW.mSE 19 W dX8_row_178 lkX8_293 rfl rfl (by (repeat first | apply zs_ne rfl | apply zs_eq (by omega) | apply zs_miss (by omega) | apply zfl_ne rfl); exact rfl) ?_
        refine AW.iconst dX8_row_181 (by decide) ?_
        refine AW.isubB dX8_row_182 (by omega) ?_
        refine AW.iret dX8_row_183 rfl ?_
        refine finZ (kO ec) rfl (by omega)
      · exact absurd c_65 (by omega)
    | succ m ih =>
      intro i c3 h1 h2
      by_cases e : i = 48
      · exact ih i c3 h1 (by omega)
      refine AW.iload dX8_row_61 rfl ?_
      refine AW.bipush dX8_row_63 bp_48 (by decide) ?_
      refine AW.icmp_ge (tgt := 159) dX8_row_65 rfl (fun c_65 => ?_) (fun c_65 => ?_)
      · exact absurd c_65 (by omega)
      · refine AW.iload dX8_row_68 rfl ?_
        refine AW.aload_n dX8_row_70 rfl ?_
        refine AW.mA 2 W dX8_row_71 lkX8_13 rfl rfl ?_
        refine AW.iload_n dX8_row_74 rfl ?_
        refine AW.mldE (j := 2) W dX8_row_75 rfl rfl (by simp only [mlen]; omega) (by (repeat first | apply zs_ne rfl | apply zs_eq (by omega) | apply zs_miss (by omega) | apply zfl_ne rfl); exact rfl) ?_
        refine' AW.icmp_geJ 115 (tgt := 114) dX8_row_76 rfl _ _ _
        rotate_left 2
        · intro c_76 k_76
          refine AW.iconst dX8_row_114 (by decide) ?_
          exact k_76
        · intro c_76 k_76
          refine AW.aload_n dX8_row_79 rfl ?_
          refine AW.mA 5 W dX8_row_80 lkX8_22 rfl rfl ?_
          refine AW.iload_n dX8_row_83 rfl ?_
          refine AW.iload_n dX8_row_84 rfl ?_
          refine AW.iload dX8_row_85 rfl ?_
          refine AW.callS (as := [vi _, vi _, vi _]) dX8_row_87 rfl rfl rfl okX8_place lkX8_152 rfl rfl rfl rfl rfl rfl (kX8_place (by omega) (AW.k1 ?_))
          refine AW.mldE (j := 5) W dX8_row_90 rfl rfl (by simp only [mlen]; omega) (by (repeat first | apply zs_ne rfl | apply zs_eq (by omega) | apply zs_miss (by omega) | apply zfl_ne rfl); exact rfl) ?_
          refine AW.iconst dX8_row_91 (by decide) ?_
          refine' AW.icmp_eqJ 115 (tgt := 114) dX8_row_92 rfl _ _ _
          rotate_left 2
          · intro c_92 k_92
            refine AW.iconst dX8_row_114 (by decide) ?_
            exact k_92
          · intro c_92 k_92
            refine AW.aload_n dX8_row_95 rfl ?_
            refine AW.mA 6 W dX8_row_96 lkX8_25 rfl rfl ?_
            refine AW.iload_n dX8_row_99 rfl ?_
            refine AW.iload_n dX8_row_100 rfl ?_
            refine AW.iload dX8_row_101 rfl ?_
            refine AW.callS (as := [vi _, vi _, vi _]) dX8_row_103 rfl rfl rfl okX8_place lkX8_152 rfl rfl rfl rfl rfl rfl (kX8_place (by omega) (AW.k1 ?_))
            refine AW.mldZE (j := 6) W dX8_row_106 rfl rfl (by simp only [mlen]; omega) (by (repeat first | apply zs_ne rfl | apply zs_eq (by omega) | apply zs_miss (by omega) | apply zfl_ne rfl); exact rfl) ?_
            refine' AW.if_eqJ 115 (tgt := 114) dX8_row_107 rfl _ _ _
            rotate_left 2
            · intro c_107 k_107
              refine AW.iconst dX8_row_114 (by decide) ?_
              exact k_107
            · intro c_107 k_107
              refine AW.iconst dX8_row_110 (by decide) ?_
              refine AW.goto (tgt := 115) dX8_row_111 rfl ?_
              exact k_107
            exact k_92
          exact k_76
        refine AW.top (y := bz ((i : Int) < Z 2 s.toNat ∧ ¬ Z 5 (48 * (24 * s + v) + (i : Int)).toNat = -1 ∧ ¬ Z 6 (48 * (24 * s + v) + (i : Int)).toNat = 0)) (by unfold bz; (repeat' split) <;> first | (simp_all; done) | grind) ?_
        refine AW.istore dX8_row_115 rfl ?_
        refine AW.aload_n dX8_row_117 rfl ?_
        refine AW.mA 22 W dX8_row_118 lkX8_68 rfl rfl ?_
        refine AW.bipush dX8_row_121 bp_48 (by decide) ?_
        refine AW.aload_n dX8_row_123 rfl ?_
        refine AW.mSE 19 W dX8_row_124 lkX8_293 rfl rfl (by (repeat first | apply zs_ne rfl | apply zs_eq (by omega) | apply zs_miss (by omega) | apply zfl_ne rfl); exact rfl) ?_
        refine AW.imulB dX8_row_127 (by omega) ?_
        refine AW.iload dX8_row_128 rfl ?_
        refine AW.iaddB dX8_row_130 (by omega) ?_
        refine AW.iload dX8_row_131 rfl ?_
        refine' AW.if_eqJ 152 (tgt := 151) dX8_row_133 rfl _ _ _
        rotate_left 2
        · intro c_133 k_133
          refine AW.iconst dX8_row_151 (by decide) ?_
          exact k_133
        · intro c_133 k_133
          refine AW.aload_n dX8_row_136 rfl ?_
          refine AW.mA 4 W dX8_row_137 lkX8_19 rfl rfl ?_
          refine AW.bipush dX8_row_140 bp_48 (by decide) ?_
          refine AW.iload_n dX8_row_142 rfl ?_
          refine AW.imulB dX8_row_143 (by omega) ?_
          refine AW.iload dX8_row_144 rfl ?_
          refine AW.iaddB dX8_row_146 (by omega) ?_
          refine AW.mldE (j := 4) W dX8_row_147 rfl rfl (by simp only [mlen]; omega) (by (repeat first | apply zs_ne rfl | apply zs_eq (by omega) | apply zs_miss (by omega) | apply zfl_ne rfl); exact rfl) ?_
          refine AW.goto (tgt := 152) dX8_row_148 rfl ?_
          exact k_133
        refine AW.top (y := zrwV Z s v i) (by unfold zrwV bz; (repeat' split) <;> simp_all) ?_
        refine AW.mst (j := 22) W dX8_row_152 rfl rfl (by simp only [mlen]; omega) ?_
        refine AW.iincB dX8_row_153 rfl rfl (by omega) ?_
        refine AW.goto (tgt := 61) dX8_row_156 rfl ?_
        refine AW.locs [(4, vi ((i + 1 : Nat) : Int)), (3, vi c3), (0, vr mO), (1, vi s), (2, vi v)] ⟨rfl, rfl, rfl, rfl, rfl, trivial⟩ (AW.mZ ?_ (ih (i + 1) c3 (by omega) (by omega)))
        exact zfl_step (by omega) rfl
  refine AW.aload_n dX8_row_0 rfl ?_
  refine AW.iload_n dX8_row_1 rfl ?_
  refine AW.iload_n dX8_row_2 rfl ?_
  refine AW.callV (as := [vi _, vi _]) dX8_row_3 rfl rfl rfl okX8_isVersion lkX8_219 W.1 rfl rfl rfl rfl rfl rfl rfl (kX8_isVersion W (by assumption) (AW.k1 ?_))
  refine AW.istore_n dX8_row_6 rfl ?_
  refine AW.aload_n dX8_row_7 rfl ?_
  refine AW.iload_n dX8_row_8 rfl ?_
  refine' AW.if_neJ 30 (tgt := 16) dX8_row_9 rfl _ _ _
  rotate_left 2
  · intro c_9 k_9
    refine AW.aload_n dX8_row_16 rfl ?_
    refine AW.mSE 19 W dX8_row_17 lkX8_293 rfl rfl rfl ?_
    refine AW.bipush dX8_row_20 bp_20 (by decide) ?_
    refine' AW.icmp_neJ 30 (tgt := 29) dX8_row_22 rfl _ _ _
    rotate_left 2
    · intro c_22 k_22
      refine AW.iconst dX8_row_29 (by decide) ?_
      exact k_22
    · intro c_22 k_22
      refine AW.iconst dX8_row_25 (by decide) ?_
      refine AW.goto (tgt := 30) dX8_row_26 rfl ?_
      exact k_22
    exact k_9
  · intro c_9 k_9
    refine AW.iconst dX8_row_12 (by decide) ?_
    refine AW.goto (tgt := 30) dX8_row_13 rfl ?_
    exact k_9
  refine AW.top (y := zcVer Z s v (Z 19 0 = 20)) (by unfold zcVer cd2; simp only [bz_0]; (repeat' split) <;> simp_all) ?_
  refine AW.callV (as := [vi _]) dX8_row_30 rfl rfl rfl okX8_fails lkX8_162 W.1 rfl rfl rfl rfl rfl rfl rfl (kX8_fails W (AW.k1 ?_))
  refine AW.if_eq (tgt := 38) dX8_row_33 rfl (fun c_33 => ?_) (fun c_33 => ?_)
  · have c := bz_0.mp c_33
    have e : zcVer Z s v (Z 19 0 = 20) = 0 := by unfold zcVer cd2 at *; (repeat' split at c) <;> omega
    obtain ⟨c1, c2⟩ := cd2_0.mp c
    rw [Classical.not_not] at c1
    have sb := B.1.2 s.toNat (by omega)
    rw [e]
    refine AW.aload_n dX8_row_38 rfl ?_
    refine AW.mA 20 W dX8_row_39 lkX8_62 rfl rfl ?_
    refine AW.aload_n dX8_row_42 rfl ?_
    refine AW.mSE 19 W dX8_row_43 lkX8_293 rfl rfl (by (repeat first | apply zs_ne rfl | apply zs_eq (by omega) | apply zs_miss (by omega)); exact rfl) ?_
    refine AW.iload_n dX8_row_46 rfl ?_
    refine AW.mst (j := 20) W dX8_row_47 rfl rfl (by simp only [mlen]; omega) ?_
    refine AW.aload_n dX8_row_48 rfl ?_
    refine AW.mA 21 W dX8_row_49 lkX8_65 rfl rfl ?_
    refine AW.aload_n dX8_row_52 rfl ?_
    refine AW.mSE 19 W dX8_row_53 lkX8_293 rfl rfl (by (repeat first | apply zs_ne rfl | apply zs_eq (by omega) | apply zs_miss (by omega)); exact rfl) ?_
    refine AW.iload_n dX8_row_56 rfl ?_
    refine AW.mst (j := 21) W dX8_row_57 rfl rfl (by simp only [mlen]; omega) ?_
    refine AW.iconst dX8_row_58 (by decide) ?_
    refine AW.istore dX8_row_59 rfl ?_
    refine AW.mZ ?_ (lp e (by omega) (by omega) (by omega) 48 0 _ (by omega) (by omega))
    rw [zfl_0]
    rfl
  · refine AW.iconst dX8_row_36 (by decide) ?_
    refine AW.iret dX8_row_37 rfl ?_
    have c := bz_n0.mp c_33
    exact kE c
/-- bounds of the movers -/
def BM (Z : ZT) : Prop := (0 ≤ Z 28 0 ∧ Z 28 0 ≤ 8) ∧ ∀ m : Nat, m < 8 → 0 ≤ Z 29 m ∧ Z 29 m < 4 ∧ 0 ≤ Z 30 m ∧ Z 30 m ≤ Z 1 (Z 29 m).toNat
def zMov (Z : ZT) (s v : Int) : ZT := zs (zs (zs (zs (zs Z 48 0 0) 29 (Z 28 0).toNat s) 30 (Z 28 0).toNat v) 31 (Z 28 0).toNat (-1)) 28 0 (Z 28 0 + 1)
theorem kX8_mover {s v : Int} (W : WfM h) (B : BI Z) (M : BM Z) (kE : 0 < zcVer Z s v (Z 28 0 = 8) → Q (mput h (zs Z 48 0 (zcVer Z s v (Z 28 0 = 8)))) (.inl (some (vi 0))))
    (kO : zcVer Z s v (Z 28 0 = 8) = 0 → Q (mput h (zMov Z s v)) (.inl (some (vi (Z 28 0))))) : AC mX8_mover fX8_mover loX8_mover 0 0 (mput h Z) [vr mO, vi s, vi v] Q := by
  have M0 := M.1
  have B0 := B.1.1
  refine AC.mk (by decide) (Nat.le_of_ble_eq_true rfl) ?_
  refine AW.aload_n dX8_mover_0 rfl ?_
  refine AW.iload_n dX8_mover_1 rfl ?_
  refine AW.iload_n dX8_mover_2 rfl ?_
  refine AW.callV (as := [vi _, vi _]) dX8_mover_3 rfl rfl rfl okX8_isVersion lkX8_219 W.1 rfl rfl rfl rfl rfl rfl rfl (kX8_isVersion W (by assumption) (AW.k1 ?_))
  refine AW.istore_n dX8_mover_6 rfl ?_
  refine AW.aload_n dX8_mover_7 rfl ?_
  refine AW.iload_n dX8_mover_8 rfl ?_
  refine' AW.if_neJ 30 (tgt := 16) dX8_mover_9 rfl _ _ _
  rotate_left 2
  · intro c_9 k_9
    refine AW.aload_n dX8_mover_16 rfl ?_
    refine AW.mSE 28 W dX8_mover_17 lkX8_309 rfl rfl rfl ?_
    refine AW.bipush dX8_mover_20 bp_8 (by decide) ?_
    refine' AW.icmp_neJ 30 (tgt := 29) dX8_mover_22 rfl _ _ _
    rotate_left 2
    · intro c_22 k_22
      refine AW.iconst dX8_mover_29 (by decide) ?_
      exact k_22
    · intro c_22 k_22
      refine AW.iconst dX8_mover_25 (by decide) ?_
      refine AW.goto (tgt := 30) dX8_mover_26 rfl ?_
      exact k_22
    exact k_9
  · intro c_9 k_9
    refine AW.iconst dX8_mover_12 (by decide) ?_
    refine AW.goto (tgt := 30) dX8_mover_13 rfl ?_
    exact k_9
  refine AW.top (y := zcVer Z s v (Z 28 0 = 8)) (by unfold zcVer cd2; simp only [bz_0]; (repeat' split) <;> simp_all) ?_
  refine AW.callV (as := [vi _]) dX8_mover_30 rfl rfl rfl okX8_fails lkX8_162 W.1 rfl rfl rfl rfl rfl rfl rfl (kX8_fails W (AW.k1 ?_))
  refine AW.if_eq (tgt := 38) dX8_mover_33 rfl (fun c_33 => ?_) (fun c_33 => ?_)
  · have c := bz_0.mp c_33
    have e : zcVer Z s v (Z 28 0 = 8) = 0 := by unfold zcVer cd2 at *; (repeat' split at c) <;> omega
    obtain ⟨c1, c2⟩ := cd2_0.mp c
    rw [Classical.not_not] at c1
    rw [e]
    refine AW.aload_n dX8_mover_38 rfl ?_
    refine AW.mA 29 W dX8_mover_39 lkX8_83 rfl rfl ?_
    refine AW.aload_n dX8_mover_42 rfl ?_
    refine AW.mSE 28 W dX8_mover_43 lkX8_309 rfl rfl (by (repeat first | apply zs_ne rfl | apply zs_eq (by omega) | apply zs_miss (by omega)); exact rfl) ?_
    refine AW.iload_n dX8_mover_46 rfl ?_
    refine AW.mst (j := 29) W dX8_mover_47 rfl rfl (by simp only [mlen]; omega) ?_
    refine AW.aload_n dX8_mover_48 rfl ?_
    refine AW.mA 30 W dX8_mover_49 lkX8_86 rfl rfl ?_
    refine AW.aload_n dX8_mover_52 rfl ?_
    refine AW.mSE 28 W dX8_mover_53 lkX8_309 rfl rfl (by (repeat first | apply zs_ne rfl | apply zs_eq (by omega) | apply zs_miss (by omega)); exact rfl) ?_
    refine AW.iload_n dX8_mover_56 rfl ?_
    refine AW.mst (j := 30) W dX8_mover_57 rfl rfl (by simp only [mlen]; omega) ?_
    refine AW.aload_n dX8_mover_58 rfl ?_
    refine AW.mA 31 W dX8_mover_59 lkX8_89 rfl rfl ?_
    refine AW.aload_n dX8_mover_62 rfl ?_
    refine AW.mSE 28 W dX8_mover_63 lkX8_309 rfl rfl (by (repeat first | apply zs_ne rfl | apply zs_eq (by omega) | apply zs_miss (by omega)); exact rfl) ?_
    refine AW.iconst dX8_mover_66 (by decide) ?_
    refine AW.mst (j := 31) W dX8_mover_67 rfl rfl (by simp only [mlen]; omega) ?_
    refine AW.aload_n dX8_mover_68 rfl ?_
    refine AW.dup dX8_mover_69 rfl ?_
    refine AW.mSE 28 W dX8_mover_70 lkX8_309 rfl rfl (by (repeat first | apply zs_ne rfl | apply zs_eq (by omega) | apply zs_miss (by omega)); exact rfl) ?_
    refine AW.iconst dX8_mover_73 (by decide) ?_
    refine AW.iaddB dX8_mover_74 (by omega) ?_
    refine AW.pcs (pc2 := 75) rfl ?_
    refine AW.mSp 28 W dX8_mover_75 lkX8_309 rfl rfl rfl ?_
    refine AW.aload_n dX8_mover_78 rfl ?_
    refine AW.mSE 28 W dX8_mover_79 lkX8_309 rfl rfl (by (repeat first | apply zs_ne rfl | apply zs_eq (by omega) | apply zs_miss (by omega)); exact rfl) ?_
    refine AW.iconst dX8_mover_82 (by decide) ?_
    refine AW.isubB dX8_mover_83 (by omega) ?_
    refine AW.iret dX8_mover_84 rfl ?_
    refine finZ (kO e) rfl (by omega)
  · refine AW.iconst dX8_mover_36 (by decide) ?_
    refine AW.iret dX8_mover_37 rfl ?_
    have c := bz_n0.mp c_33
    exact kE c
theorem kX8_isMover {m : Int} (W : WfM h) (M : BM Z) (k : Q (mput h Z) (.inl (some (vi (bz (0 ≤ m ∧ m ≤ Z 28 0 - 1)))))) : AC mX8_isMover fX8_isMover loX8_isMover 0 0 (mput h Z) [vr mO, vi m] Q := by
  have M0 := M.1
  refine AC.mk (by decide) (Nat.le_of_ble_eq_true rfl) ?_
  refine AW.iload_n dX8_isMover_0 rfl ?_
  refine AW.iconst dX8_isMover_1 (by decide) ?_
  refine AW.aload_n dX8_isMover_2 rfl ?_
  refine AW.mSE 28 W dX8_isMover_3 lkX8_309 rfl rfl rfl ?_
  refine AW.iconst dX8_isMover_6 (by decide) ?_
  refine AW.isubB dX8_isMover_7 (by omega) ?_
  refine AW.callS (as := [vi _, vi _, vi _]) dX8_isMover_8 rfl rfl rfl okX8_lies lkX8_144 rfl rfl rfl rfl rfl rfl (kX8_lies  (AW.k1 ?_))
  refine AW.zret dX8_isMover_11 rfl ?_ ?_
  · exact bz01 _
  exact k
def zoff (Z : ZT) (r m : Int) : Int := if Z 21 r.toNat - Z 30 m.toNat < 0 then -(Z 21 r.toNat - Z 30 m.toNat) else Z 21 r.toNat - Z 30 m.toNat
theorem kX8_off {r m : Int} (W : WfM h) (hr : 0 ≤ r ∧ r < 22) (hm : 0 ≤ m ∧ m < 8) (b : 0 ≤ Z 21 r.toNat ∧ Z 21 r.toNat ≤ 23 ∧ 0 ≤ Z 30 m.toNat ∧ Z 30 m.toNat ≤ 23) (k : Q (mput h Z) (.inl (some (vi (zoff Z r m))))) : AC mX8_off fX8_off loX8_off 0 0 (mput h Z) [vr mO, vi r, vi m] Q := by
  refine AC.mk (by decide) (Nat.le_of_ble_eq_true rfl) ?_
  refine AW.aload_n dX8_off_0 rfl ?_
  refine AW.mA 21 W dX8_off_1 lkX8_65 rfl rfl ?_
  refine AW.iload_n dX8_off_4 rfl ?_
  refine AW.mldE (j := 21) W dX8_off_5 rfl rfl (by simp only [mlen]; omega) rfl ?_
  refine AW.aload_n dX8_off_6 rfl ?_
  refine AW.mA 30 W dX8_off_7 lkX8_86 rfl rfl ?_
  refine AW.iload_n dX8_off_10 rfl ?_
  refine AW.mldE (j := 30) W dX8_off_11 rfl rfl (by simp only [mlen]; omega) rfl ?_
  refine AW.isubB dX8_off_12 (by omega) ?_
  refine AW.istore_n dX8_off_13 rfl ?_
  refine AW.iload_n dX8_off_14 rfl ?_
  refine' AW.if_geJ 24 (tgt := 23) dX8_off_15 rfl _ _ _
  rotate_left 2
  · intro c_15 k_15
    refine AW.iload_n dX8_off_23 rfl ?_
    exact k_15
  · intro c_15 k_15
    refine AW.iload_n dX8_off_18 rfl ?_
    refine AW.inegB dX8_off_19 (by omega) ?_
    refine AW.goto (tgt := 24) dX8_off_20 rfl ?_
    exact k_15
  refine AW.iret dX8_off_24 rfl ?_
  refine fin1 k rfl ?_
  unfold zoff
  (repeat' split) <;> omega
def znxA (Z : ZT) (m : Int) : Nat → Int
  | 0 => -1
  | i + 1 => if (Z 20 (i : Int).toNat = Z 29 m.toNat ∧ 0 < zoff Z (i : Int) m) ∧ (znxA Z m i = -1 ∨ zoff Z (znxA Z m i) m < zoff Z (i : Int) m) then (i : Int) else znxA Z m i
def znx (Z : ZT) (m : Int) : Int := znxA Z m (Z 19 0).toNat
theorem znxA_rng {m : Int} : ∀ i : Nat, znxA Z m i = -1 ∨ (0 ≤ znxA Z m i ∧ znxA Z m i < i ∧ Z 20 (znxA Z m i).toNat = Z 29 m.toNat ∧ 0 < zoff Z (znxA Z m i) m)
  | 0 => Or.inl rfl
  | i + 1 => by
    have := znxA_rng (m := m) i
    unfold znxA; split
    · next e => exact Or.inr ⟨by omega, by omega, e.1.1, e.1.2⟩
    · rcases this with q | ⟨q1, q2, q3⟩
      · exact Or.inl q
      · exact Or.inr ⟨q1, by omega, q3⟩
set_option maxHeartbeats 1000000 in
theorem kX8_nextRow {m : Int} (W : WfM h) (B : BI Z) (R : BR Z) (M : BM Z) (hm : 0 ≤ m ∧ m < 8) (k : Q (mput h Z) (.inl (some (vi (znx Z m))))) : AC mX8_nextRow fX8_nextRow loX8_nextRow 0 0 (mput h Z) [vr mO, vi m] Q := by
  have R0 := R.1
  have mb := M.2 m.toNat (by omega)
  have sb := B.1.2 (Z 29 m.toNat).toNat (by omega)
  refine AC.mk (by decide) (Nat.le_of_ble_eq_true rfl) ?_
  have lp : ∀ (n i : Nat), (i : Int) ≤ Z 19 0 → Z 19 0 ≤ i + n → AW mX8_nextRow fX8_nextRow loX8_nextRow 0 0 Q 0 0 4 (mput h Z) [(3, vi (i : Int)), (2, vi (znxA Z m i)), (0, vr mO), (1, vi m)] [] := by
    intro n
    induction n with
    | zero =>
      intro i h1 h2
      have e : (Z 19 0).toNat = i := by omega
      refine AW.iload_n dX8_nextRow_4 rfl ?_
      refine AW.aload_n dX8_nextRow_5 rfl ?_
      refine AW.mSE 19 W dX8_nextRow_6 lkX8_293 rfl rfl rfl ?_
      refine AW.icmp_ge (tgt := 80) dX8_nextRow_9 rfl (fun c_9 => ?_) (fun c_9 => ?_)
      · refine AW.iload_n dX8_nextRow_80 rfl ?_
        refine AW.iret dX8_nextRow_81 rfl ?_
        unfold znx at k
        rw [e] at k
        exact k
      · exact absurd c_9 (by omega)
    | succ n ih =>
      intro i h1 h2
      by_cases e : Z 19 0 = (i : Int)
      · exact ih i h1 (by omega)
      have rb := R.2 (i : Int).toNat (by omega)
      have sb2 := B.1.2 (Z 20 (i : Int).toNat).toNat (by omega)
      have rng := znxA_rng (Z := Z) (m := m) i
      have rb2 : ¬ znxA Z m i = -1 → 0 ≤ Z 21 (znxA Z m i).toNat ∧ Z 21 (znxA Z m i).toNat ≤ 23 ∧ 0 ≤ znxA Z m i ∧ znxA Z m i < 20 := by
        intro q
        have rng := rng.resolve_left q
        have rb := R.2 (znxA Z m i).toNat (by omega)
        have sb2 := B.1.2 (Z 20 (znxA Z m i).toNat).toNat (by omega)
        omega
      refine AW.iload_n dX8_nextRow_4 rfl ?_
      refine AW.aload_n dX8_nextRow_5 rfl ?_
      refine AW.mSE 19 W dX8_nextRow_6 lkX8_293 rfl rfl rfl ?_
      refine AW.icmp_ge (tgt := 80) dX8_nextRow_9 rfl (fun c_9 => ?_) (fun c_9 => ?_)
      · exact absurd c_9 (by omega)
      · refine AW.aload_n dX8_nextRow_12 rfl ?_
        refine AW.mA 20 W dX8_nextRow_13 lkX8_62 rfl rfl ?_
        refine AW.iload_n dX8_nextRow_16 rfl ?_
        refine AW.mldE (j := 20) W dX8_nextRow_17 rfl rfl (by simp only [mlen]; omega) rfl ?_
        refine AW.aload_n dX8_nextRow_18 rfl ?_
        refine AW.mA 29 W dX8_nextRow_19 lkX8_83 rfl rfl ?_
        refine AW.iload_n dX8_nextRow_22 rfl ?_
        refine AW.mldE (j := 29) W dX8_nextRow_23 rfl rfl (by simp only [mlen]; omega) rfl ?_
        refine' AW.icmp_neJ 41 (tgt := 40) dX8_nextRow_24 rfl _ _ _
        rotate_left 2
        · intro c_24 k_24
          refine AW.iconst dX8_nextRow_40 (by decide) ?_
          exact k_24
        · intro c_24 k_24
          refine AW.aload_n dX8_nextRow_27 rfl ?_
          refine AW.iload_n dX8_nextRow_28 rfl ?_
          refine AW.iload_n dX8_nextRow_29 rfl ?_
          refine AW.callV (as := [vi _, vi _]) dX8_nextRow_30 rfl rfl rfl okX8_off lkX8_312 W.1 rfl rfl rfl rfl rfl rfl rfl (kX8_off W (by omega) (by omega) (by omega) (AW.k1 ?_))
          refine' AW.if_leJ 41 (tgt := 40) dX8_nextRow_33 rfl _ _ _
          rotate_left 2
          · intro c_33 k_33
            refine AW.iconst dX8_nextRow_40 (by decide) ?_
            exact k_33
          · intro c_33 k_33
            refine AW.iconst dX8_nextRow_36 (by decide) ?_
            refine AW.goto (tgt := 41) dX8_nextRow_37 rfl ?_
            exact k_33
          exact k_24
        refine AW.top (y := bz (Z 20 (i : Int).toNat = Z 29 m.toNat ∧ 0 < zoff Z (i : Int) m)) (by unfold bz; (repeat' split) <;> first | rfl | grind) ?_
        refine AW.istore dX8_nextRow_41 rfl ?_
        refine AW.iload dX8_nextRow_43 rfl ?_
        refine' AW.if_eqJ 73 (tgt := 72) dX8_nextRow_45 rfl _ _ _
        rotate_left 2
        · intro c_45 k_45
          refine AW.iload_n dX8_nextRow_72 rfl ?_
          exact k_45
        · intro c_45 k_45
          refine AW.iload_n dX8_nextRow_48 rfl ?_
          refine AW.iconst dX8_nextRow_49 (by decide) ?_
          refine' AW.icmp_eqJ 73 (tgt := 68) dX8_nextRow_50 rfl _ _ _
          rotate_left 2
          · intro c_50 k_50
            refine AW.iload_n dX8_nextRow_68 rfl ?_
            refine AW.goto (tgt := 73) dX8_nextRow_69 rfl ?_
            exact k_50
          · intro c_50 k_50
            have rb3 := rb2 c_50
            refine AW.aload_n dX8_nextRow_53 rfl ?_
            refine AW.iload_n dX8_nextRow_54 rfl ?_
            refine AW.iload_n dX8_nextRow_55 rfl ?_
            refine AW.callV (as := [vi _, vi _]) dX8_nextRow_56 rfl rfl rfl okX8_off lkX8_312 W.1 rfl rfl rfl rfl rfl rfl rfl (kX8_off W (by omega) (by omega) (by omega) (AW.k1 ?_))
            refine AW.aload_n dX8_nextRow_59 rfl ?_
            refine AW.iload_n dX8_nextRow_60 rfl ?_
            refine AW.iload_n dX8_nextRow_61 rfl ?_
            refine AW.callV (as := [vi _, vi _]) dX8_nextRow_62 rfl rfl rfl okX8_off lkX8_312 W.1 rfl rfl rfl rfl rfl rfl rfl (kX8_off W (by omega) (by omega) (by omega) (AW.k1 ?_))
            refine' AW.icmp_leJ 73 (tgt := 72) dX8_nextRow_65 rfl _ _ _
            rotate_left 2
            · intro c_65 k_65
              refine AW.iload_n dX8_nextRow_72 rfl ?_
              exact k_65
            · intro c_65 k_65
              refine AW.iload_n dX8_nextRow_68 rfl ?_
              refine AW.goto (tgt := 73) dX8_nextRow_69 rfl ?_
              exact k_65
            exact k_50
          exact k_45
        refine AW.top (y := znxA Z m (i + 1)) (by simp only [znxA, bz_0]; (repeat' split) <;> first | rfl | grind) ?_
        refine AW.istore_n dX8_nextRow_73 rfl ?_
        refine AW.iincB dX8_nextRow_74 rfl rfl (by omega) ?_
        refine AW.goto (tgt := 4) dX8_nextRow_77 rfl ?_
        exact AW.locs [(3, vi ((i + 1 : Nat) : Int)), (2, vi (znxA Z m (i + 1))), (0, vr mO), (1, vi m)] ⟨rfl, rfl, rfl, rfl, trivial⟩ (ih (i + 1) (by omega) (by omega))
  refine AW.iconst dX8_nextRow_0 (by decide) ?_
  refine AW.istore_n dX8_nextRow_1 rfl ?_
  refine AW.iconst dX8_nextRow_2 (by decide) ?_
  refine AW.istore_n dX8_nextRow_3 rfl ?_
  exact lp (Z 19 0).toNat 0 (by omega) (by omega)
end M19

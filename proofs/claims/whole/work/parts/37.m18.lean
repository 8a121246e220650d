/-! ===== the model: write, set, value, replayed ===== -/
section M18
variable {Q : AH → AO → Prop} {h : AH} {Z : ZT}
theorem zcnt_z3 {t l w : Nat → Int} {r : Int} : zcnt (z3 Z t l w) r = z3 (zcnt Z r) t l w := by
  unfold zcnt
  rw [show z3 Z t l w 27 0 = Z 27 0 from rfl, zs_z3' rfl, zs_z3' rfl]
theorem beq_ne {j k : Nat} (h : ¬ j = k) : Nat.beq j k = false := by
  cases q : Nat.beq j k
  · rfl
  · exact absurd (Nat.eq_of_beq_eq_true q) h
theorem z3_ne {t l w : Nat → Int} {j i : Nat} {x : Int} (hj : (j != 43 && j != 44 && j != 45) = true) (k : Z j i = x) : z3 Z t l w j i = x := by
  simp only [Bool.and_eq_true, bne_iff_ne, ne_eq] at hj
  unfold z3
  exact zrow_ne (beq_ne hj.1.1) (zrow_ne (beq_ne hj.1.2) (zrow_ne (beq_ne hj.2) k))
/-- kinds lie in 0 to 2 -/
def BK (Z : ZT) : Prop := ∀ i, 0 ≤ Z 3 i ∧ Z 3 i ≤ 2
def zcWok (Z : ZT) (g r n x : Int) : Int := bz (¬ zhlc Z g n r = 0 ∧ Z 20 r.toNat = Z 14 g.toNat ∧ 0 ≤ x ∧ x ≤ zmost (Z 3 (48 * Z 14 g.toNat + zinF Z g n).toNat))
def zcWri (Z : ZT) (g r n x : Int) : Int := cd3 (zhlc Z g n r = 0) (zcWok Z g r n x = 0) (Z 18 (48 * g + zinF Z g n).toNat = 0)
def zWri1 (Z : ZT) (g r n x : Int) : ZT := zs (zsee Z r (Z 15 g.toNat)) 22 (960 + zinF Z g n).toNat x
def zWri2 (Z : ZT) (g r n x : Int) : ZT := zmt (zWri1 Z g r n x) 20 (Z 20 r.toNat) (Z 21 r.toNat)
def zWri (Z : ZT) (g r n x : Int) : ZT := zcnt (zcpy (zWri2 Z g r n x) 20 r.toNat) r
theorem zWri1_o {g r n x : Int} {j : Nat} (hj : (j != 20 && offR j) = true) : zWri1 Z g r n x j = Z j := by
  unfold zWri1
  have h22 : Nat.beq j 22 = false := by
    cases q : Nat.beq j 22
    · rfl
    · have := Nat.eq_of_beq_eq_true q; subst this; exact absurd hj (by decide)
  rw [zs_oj h22, zsee_o hj]
set_option maxHeartbeats 1000000 in
theorem kX8_write {g r n x : Int} (W : WfM h) (B : BI Z) (R : BR Z) (T : BT Z) (kE : 0 < zcWri Z g r n x → Q (mput h (zs Z 48 0 (zcWri Z g r n x))) (.inl (some (vi 0))))
    (kO : zcWri Z g r n x = 0 → ∀ t l w, Q (mput h (z3 (zWri (zs Z 48 0 0) g r n x) t l w)) (.inl (some (vi (zsee (zs Z 48 0 0) r (Z 15 g.toNat) 22 (960 + zinF Z g n).toNat))))) : AC mX8_write fX8_write loX8_write 0 0 (mput h Z) [vr mO, vi g, vi r, vi n, vi x] Q := by
  have hR := zinF_rng B (g := g) (n := n)
  have R0 := R.1
  refine AC.mk (by decide) (Nat.le_of_ble_eq_true rfl) ?_
  refine AW.aload_n dX8_write_0 rfl ?_
  refine AW.iload_n dX8_write_1 rfl ?_
  refine AW.iload_n dX8_write_2 rfl ?_
  refine AW.callV (as := [vi _, vi _]) dX8_write_3 rfl rfl rfl okX8_inForm lkX8_239 W.1 rfl rfl rfl rfl rfl rfl rfl (kX8_inForm W (by assumption) (AW.k1 ?_))
  refine AW.istore dX8_write_6 rfl ?_
  refine AW.aload_n dX8_write_8 rfl ?_
  refine AW.iload_n dX8_write_9 rfl ?_
  refine AW.iload dX8_write_10 rfl ?_
  refine AW.callV (as := [vi _, vi _]) dX8_write_12 rfl rfl rfl okX8_isHeld lkX8_248 W.1 rfl rfl rfl rfl rfl rfl rfl (kX8_isHeld W (fun c => (hR.resolve_left c).1 |> fun z => ⟨z.1, z.2.1⟩) (by omega) (AW.k1 ?_))
  refine' AW.if_eqJ 31 (tgt := 30) dX8_write_15 rfl _ _ _
  rotate_left 2
  · intro c_15 k_15
    refine AW.iconst dX8_write_30 (by decide) ?_
    exact k_15
  · intro c_15 k_15
    refine AW.aload_n dX8_write_18 rfl ?_
    refine AW.iload_n dX8_write_19 rfl ?_
    refine AW.callV (as := [vi _]) dX8_write_20 rfl rfl rfl okX8_isRow lkX8_296 W.1 rfl rfl rfl rfl rfl rfl rfl (kX8_isRow W (by assumption) (AW.k1 ?_))
    refine' AW.if_eqJ 31 (tgt := 30) dX8_write_23 rfl _ _ _
    rotate_left 2
    · intro c_23 k_23
      refine AW.iconst dX8_write_30 (by decide) ?_
      exact k_23
    · intro c_23 k_23
      refine AW.iconst dX8_write_26 (by decide) ?_
      refine AW.goto (tgt := 31) dX8_write_27 rfl ?_
      exact k_23
    exact k_15
  refine AW.top (y := zhlc Z g n r) (by unfold zhlc; simp only [bz_0]; unfold bz; (repeat' split) <;> simp_all) ?_
  refine AW.istore dX8_write_31 rfl ?_
  refine AW.iload dX8_write_33 rfl ?_
  refine' AW.if_eqJ 87 (tgt := 86) dX8_write_35 rfl _ _ _
  rotate_left 2
  · intro c_35 k_35
    refine AW.iconst dX8_write_86 (by decide) ?_
    exact k_35
  · intro c_35 k_35
    have c := bz_n0.mp c_35
    have hR2 := hR.resolve_left c.1.1
    refine AW.aload_n dX8_write_38 rfl ?_
    refine AW.mA 20 W dX8_write_39 lkX8_62 rfl rfl ?_
    refine AW.iload_n dX8_write_42 rfl ?_
    refine AW.mldE (j := 20) W dX8_write_43 rfl rfl (by simp only [mlen]; omega) rfl ?_
    refine AW.aload_n dX8_write_44 rfl ?_
    refine AW.mA 14 W dX8_write_45 lkX8_47 rfl rfl ?_
    refine AW.iload_n dX8_write_48 rfl ?_
    refine AW.mldE (j := 14) W dX8_write_49 rfl rfl (by simp only [mlen]; omega) rfl ?_
    refine' AW.icmp_neJ 87 (tgt := 86) dX8_write_50 rfl _ _ _
    rotate_left 2
    · intro c_50 k_50
      refine AW.iconst dX8_write_86 (by decide) ?_
      exact k_50
    · intro c_50 k_50
      refine AW.iload dX8_write_53 rfl ?_
      refine AW.iconst dX8_write_55 (by decide) ?_
      refine AW.aload_n dX8_write_56 rfl ?_
      refine AW.mA 3 W dX8_write_57 lkX8_16 rfl rfl ?_
      refine AW.bipush dX8_write_60 bp_48 (by decide) ?_
      refine AW.aload_n dX8_write_62 rfl ?_
      refine AW.mA 14 W dX8_write_63 lkX8_47 rfl rfl ?_
      refine AW.iload_n dX8_write_66 rfl ?_
      refine AW.mldE (j := 14) W dX8_write_67 rfl rfl (by simp only [mlen]; omega) rfl ?_
      refine AW.imulB dX8_write_68 (by omega) ?_
      refine AW.iload dX8_write_69 rfl ?_
      refine AW.iaddB dX8_write_71 (by omega) ?_
      refine AW.mldE (j := 3) W dX8_write_72 rfl rfl (by simp only [mlen]; omega) rfl ?_
      refine AW.callS (as := [vi _]) dX8_write_73 rfl rfl rfl okX8_most lkX8_165 rfl rfl rfl rfl rfl rfl (kX8_most  (AW.k1 ?_))
      refine AW.callS (as := [vi _, vi _, vi _]) dX8_write_76 rfl rfl rfl okX8_lies lkX8_144 rfl rfl rfl rfl rfl rfl (kX8_lies  (AW.k1 ?_))
      refine' AW.if_eqJ 87 (tgt := 86) dX8_write_79 rfl _ _ _
      rotate_left 2
      · intro c_79 k_79
        refine AW.iconst dX8_write_86 (by decide) ?_
        exact k_79
      · intro c_79 k_79
        refine AW.iconst dX8_write_82 (by decide) ?_
        refine AW.goto (tgt := 87) dX8_write_83 rfl ?_
        exact k_79
      exact k_50
    exact k_35
  refine AW.top (y := zcWok Z g r n x) (by clear hR; unfold zcWok; simp only [bz_0]; unfold bz; (repeat' split) <;> simp_all) ?_
  refine AW.istore dX8_write_87 rfl ?_
  refine AW.aload_n dX8_write_89 rfl ?_
  refine AW.iload dX8_write_90 rfl ?_
  refine' AW.if_neJ 128 (tgt := 99) dX8_write_92 rfl _ _ _
  rotate_left 2
  · intro c_92 k_92
    refine AW.iload dX8_write_99 rfl ?_
    refine' AW.if_neJ 128 (tgt := 108) dX8_write_101 rfl _ _ _
    rotate_left 2
    · intro c_101 k_101
      have c := bz_n0.mp c_92
      have hR2 := hR.resolve_left c.1.1
      refine AW.aload_n dX8_write_108 rfl ?_
      refine AW.mA 18 W dX8_write_109 lkX8_59 rfl rfl ?_
      refine AW.bipush dX8_write_112 bp_48 (by decide) ?_
      refine AW.iload_n dX8_write_114 rfl ?_
      refine AW.imulB dX8_write_115 (by omega) ?_
      refine AW.iload dX8_write_116 rfl ?_
      refine AW.iaddB dX8_write_118 (by omega) ?_
      refine AW.mldZE (j := 18) W dX8_write_119 rfl rfl (by simp only [mlen]; omega) rfl ?_
      refine' AW.if_eqJ 128 (tgt := 127) dX8_write_120 rfl _ _ _
      rotate_left 2
      · intro c_120 k_120
        refine AW.iconst dX8_write_127 (by decide) ?_
        exact k_120
      · intro c_120 k_120
        refine AW.iconst dX8_write_123 (by decide) ?_
        refine AW.goto (tgt := 128) dX8_write_124 rfl ?_
        exact k_120
      exact k_101
    · intro c_101 k_101
      refine AW.iconst dX8_write_104 (by decide) ?_
      refine AW.goto (tgt := 128) dX8_write_105 rfl ?_
      exact k_101
    exact k_92
  · intro c_92 k_92
    refine AW.iconst dX8_write_95 (by decide) ?_
    refine AW.goto (tgt := 128) dX8_write_96 rfl ?_
    exact k_92
  refine AW.top (y := zcWri Z g r n x) (by clear hR; unfold zcWri cd3; (repeat' split) <;> simp_all) ?_
  refine AW.callV (as := [vi _]) dX8_write_128 rfl rfl rfl okX8_fails lkX8_162 W.1 rfl rfl rfl rfl rfl rfl rfl (kX8_fails W (AW.k1 ?_))
  refine AW.if_eq (tgt := 136) dX8_write_131 rfl (fun c_131 => ?_) (fun c_131 => ?_)
  · have c := bz_0.mp c_131
    have e : zcWri Z g r n x = 0 := by unfold zcWri cd3 at *; (repeat' split at c) <;> omega
    obtain ⟨c1, c2, c3⟩ := cd3_0.mp c
    have c1 := bz_n0.mp c1
    have c2 := (bz_n0.mp c2).2.1
    have hR := hR.resolve_left c1.1.1
    have rb := R.2 r.toNat (by omega)
    have sb := B.1.2 (Z 20 r.toNat).toNat (by omega)
    rw [e]
    refine AW.mZ (z3_self (Z := zs Z 48 0 0)).symm ?_
    have o : ∀ j, (j != 20 && offR j && j != 48) = true → zWri1 (zs Z 48 0 0) g r n x j = Z j := fun j hj => by rw [Bool.and_eq_true, bne_iff_ne] at hj; rw [zWri1_o hj.1, zs_oj (beq_ne hj.2)]
    have o20 : zWri1 (zs Z 48 0 0) g r n x 20 20 = Z 20 r.toNat := zsee_20 (Z := zs Z 48 0 0)
    have o21 : zWri1 (zs Z 48 0 0) g r n x 21 20 = Z 15 g.toNat := zsee_21 (Z := zs Z 48 0 0)
    refine AW.aload_n dX8_write_136 rfl ?_
    refine AW.mA 21 W dX8_write_137 lkX8_65 rfl rfl ?_
    refine AW.iload_n dX8_write_140 rfl ?_
    refine AW.mldE (j := 21) W dX8_write_141 rfl rfl (by simp only [mlen]; omega) (by exact z3_ne rfl (zs_ne rfl rfl)) ?_
    refine AW.istore dX8_write_142 rfl ?_
    refine AW.aload_n dX8_write_144 rfl ?_
    refine AW.iload_n dX8_write_145 rfl ?_
    refine AW.aload_n dX8_write_146 rfl ?_
    refine AW.mA 15 W dX8_write_147 lkX8_50 rfl rfl ?_
    refine AW.iload_n dX8_write_150 rfl ?_
    refine AW.mldE (j := 15) W dX8_write_151 rfl rfl (by simp only [mlen]; omega) (by exact z3_ne rfl (zs_ne rfl rfl)) ?_
    refine AW.callV (as := [vi _, vi _]) dX8_write_152 rfl rfl rfl okX8_sees lkX8_299 W.1 rfl rfl rfl rfl rfl rfl rfl (kX8_sees (Z := zs Z 48 0 0) (t := zs Z 48 0 0 43) (l := zs Z 48 0 0 44) (w := zs Z 48 0 0 45) W (BI_zs rfl B) (BR_zs rfl R) (BT_c rfl rfl rfl rfl T) (by omega) (show 0 ≤ Z 15 g.toNat ∧ Z 15 g.toNat ≤ Z 1 (Z 20 r.toNat).toNat by rw [c2]; omega) (fun t l w => (AW.k0 ?_)))
    refine AW.aload_n dX8_write_155 rfl ?_
    refine AW.mA 22 W dX8_write_156 lkX8_68 rfl rfl ?_
    refine AW.sipush dX8_write_159 sp_960 (by decide) ?_
    refine AW.iload dX8_write_162 rfl ?_
    refine AW.iaddB dX8_write_164 (by omega) ?_
    refine AW.mldE (j := 22) W dX8_write_165 rfl rfl (by simp only [mlen]; omega) (by rfl) ?_
    refine AW.istore dX8_write_166 rfl ?_
    refine AW.aload_n dX8_write_168 rfl ?_
    refine AW.mA 22 W dX8_write_169 lkX8_68 rfl rfl ?_
    refine AW.sipush dX8_write_172 sp_960 (by decide) ?_
    refine AW.iload dX8_write_175 rfl ?_
    refine AW.pcs (pc2 := 177) rfl ?_
    refine AW.iaddB dX8_write_177 (by omega) ?_
    refine AW.iload dX8_write_178 rfl ?_
    refine AW.mst (j := 22) W dX8_write_180 rfl rfl (by simp only [mlen]; omega) ?_
    refine AW.mZ (Z' := z3 (zWri1 (zs Z 48 0 0) g r n x) t l w) (by unfold zWri1; rw [zs_z3' rfl, zinF_c (Z' := zs Z 48 0 0) (Z := Z) rfl rfl rfl rfl rfl]; rfl) ?_
    refine AW.aload_n dX8_write_181 rfl ?_
    refine AW.bipush dX8_write_182 bp_20 (by decide) ?_
    refine AW.iload dX8_write_184 rfl ?_
    refine AW.callV (as := [vi _, vi _]) dX8_write_186 rfl rfl rfl okX8_movesTo lkX8_287 W.1 rfl rfl rfl rfl rfl rfl rfl (kX8_movesTo (Z := zWri1 (zs Z 48 0 0) g r n x) W (BB_c (o 8 rfl) (o 9 rfl) B.2.2.1) o20 (stS_c (o 1 rfl) (o 7 rfl) (o 9 rfl) (o 10 rfl) (T _ rb.1 rb.2.1)) (by omega) (by omega) (by rw [o 1 rfl]; omega) (by rw [o 1 rfl]; omega) (by rw [o 1 rfl, show zWri1 (zs Z 48 0 0) g r n x 21 (20 : Int).toNat = Z 15 g.toNat from o21, c2]; omega) (fun t l w => (AW.k0 ?_)))
    refine AW.aload_n dX8_write_189 rfl ?_
    refine AW.bipush dX8_write_190 bp_20 (by decide) ?_
    refine AW.iload_n dX8_write_192 rfl ?_
    refine AW.callV (as := [vi _, vi _]) dX8_write_193 rfl rfl rfl okX8_copies lkX8_284 W.1 rfl rfl rfl rfl rfl rfl rfl (kX8_copies W (by omega) (by omega) (by omega) (AW.k0 ?_))
    refine AW.mZ (Z' := z3 (zcpy (zWri2 (zs Z 48 0 0) g r n x) 20 r.toNat) t l w) (zcpy_z3 (a := 20) (b := r.toNat)) ?_
    refine AW.aload_n dX8_write_196 rfl ?_
    refine AW.iload_n dX8_write_197 rfl ?_
    refine AW.callV (as := [vi _]) dX8_write_198 rfl rfl rfl okX8_counts lkX8_302 W.1 rfl rfl rfl rfl rfl rfl rfl (kX8_counts W (by omega) (AW.k0 ?_))
    refine AW.iload dX8_write_201 rfl ?_
    refine AW.iret dX8_write_203 rfl ?_
    exact finZ (kO e t l w) zcnt_z3 rfl
  · refine AW.iconst dX8_write_134 (by decide) ?_
    refine AW.iret dX8_write_135 rfl ?_
    have c := bz_n0.mp c_131
    exact kE c
def zinR (Z : ZT) (r n : Int) : Int := if 0 ≤ r ∧ r ≤ Z 19 0 - 1 then zfind Z (Z 20 r.toNat) (Z 21 r.toNat) n else -1
theorem kX8_inRow {r n : Int} (W : WfM h) (B : BI Z) (R : BR Z) (k : Q (mput h Z) (.inl (some (vi (zinR Z r n))))) : AC mX8_inRow fX8_inRow loX8_inRow 0 0 (mput h Z) [vr mO, vi r, vi n] Q := by
  have R0 := R.1
  refine AC.mk (by decide) (Nat.le_of_ble_eq_true rfl) ?_
  refine AW.aload_n dX8_inRow_0 rfl ?_
  refine AW.iload_n dX8_inRow_1 rfl ?_
  refine AW.callV (as := [vi _]) dX8_inRow_2 rfl rfl rfl okX8_isRow lkX8_296 W.1 rfl rfl rfl rfl rfl rfl rfl (kX8_isRow W (by assumption) (AW.k1 ?_))
  refine' AW.if_eqJ 29 (tgt := 28) dX8_inRow_5 rfl _ _ _
  rotate_left 2
  · intro c_5 k_5
    refine AW.iconst dX8_inRow_28 (by decide) ?_
    exact k_5
  · intro c_5 k_5
    have c := bz_n0.mp c_5
    have b := R.2 r.toNat (by omega)
    have bs := B.1.2 (Z 20 r.toNat).toNat (by omega)
    refine AW.aload_n dX8_inRow_8 rfl ?_
    refine AW.aload_n dX8_inRow_9 rfl ?_
    refine AW.mA 20 W dX8_inRow_10 lkX8_62 rfl rfl ?_
    refine AW.iload_n dX8_inRow_13 rfl ?_
    refine AW.mldE (j := 20) W dX8_inRow_14 rfl rfl (by simp only [mlen]; omega) rfl ?_
    refine AW.aload_n dX8_inRow_15 rfl ?_
    refine AW.mA 21 W dX8_inRow_16 lkX8_65 rfl rfl ?_
    refine AW.iload_n dX8_inRow_19 rfl ?_
    refine AW.mldE (j := 21) W dX8_inRow_20 rfl rfl (by simp only [mlen]; omega) rfl ?_
    refine AW.iload_n dX8_inRow_21 rfl ?_
    refine AW.callV (as := [vi _, vi _, vi _]) dX8_inRow_22 rfl rfl rfl okX8_find lkX8_159 W.1 rfl rfl rfl rfl rfl rfl rfl (kX8_find W (by omega) (by omega) (by omega) (AW.k1 ?_))
    refine AW.goto (tgt := 29) dX8_inRow_25 rfl ?_
    exact k_5
  refine AW.iret dX8_inRow_29 rfl ?_
  refine fin1 k rfl ?_
  unfold zinR
  simp only [bz_0]
  (repeat' split) <;> simp_all
theorem zinR_rng (B : BI Z) (R : BR Z) {r n : Int} : zinR Z r n = -1 ∨ ((0 ≤ r ∧ r < 20 ∧ r < Z 19 0) ∧ (0 ≤ Z 20 r.toNat ∧ Z 20 r.toNat < 4) ∧ (0 ≤ Z 21 r.toNat ∧ Z 21 r.toNat ≤ Z 1 (Z 20 r.toNat).toNat ∧ Z 21 r.toNat ≤ 23) ∧ 0 ≤ zinR Z r n ∧ zinR Z r n < Z 2 (Z 20 r.toNat).toNat ∧ zinR Z r n < 46) := by
  have R0 := R.1
  unfold zinR; split
  · next e =>
    have b := R.2 r.toNat (by omega)
    have bs := B.1.2 (Z 20 r.toNat).toNat (by omega)
    rcases zfind_rng (Z := Z) (s := Z 20 r.toNat) (a := Z 21 r.toNat) (n := n) (by omega) with q | ⟨q1, q2, -⟩
    · exact Or.inl q
    · exact Or.inr ⟨by omega, by omega, by omega, by omega, by omega, by omega⟩
  · exact Or.inl rfl
def zcSok (Z : ZT) (r n x : Int) : Int := bz (¬ zinR Z r n = -1 ∧ ((0 ≤ x ∧ x ≤ zmost (Z 3 (48 * Z 20 r.toNat + zinR Z r n).toNat)) ∨ (x = -1 ∧ Z 6 (48 * (24 * Z 20 r.toNat + Z 21 r.toNat) + zinR Z r n).toNat = 0)))
def zcSet (Z : ZT) (r n x : Int) : Int := cd2 (zinR Z r n = -1) (zcSok Z r n x = 0)
def zSet (Z : ZT) (r n x : Int) : ZT := zcnt (zs (zs Z 48 0 0) 22 (48 * r + zinR Z r n).toNat x) r
set_option maxHeartbeats 1000000 in
theorem kX8_set {r n x : Int} (W : WfM h) (B : BI Z) (R : BR Z) (kE : 0 < zcSet Z r n x → Q (mput h (zs Z 48 0 (zcSet Z r n x))) (.inl (some (vi 0))))
    (kO : zcSet Z r n x = 0 → Q (mput h (zSet Z r n x)) (.inl (some (vi (Z 22 (48 * r + zinR Z r n).toNat))))) : AC mX8_set fX8_set loX8_set 0 0 (mput h Z) [vr mO, vi r, vi n, vi x] Q := by
  have hR := zinR_rng B R (r := r) (n := n)
  refine AC.mk (by decide) (Nat.le_of_ble_eq_true rfl) ?_
  refine AW.aload_n dX8_set_0 rfl ?_
  refine AW.iload_n dX8_set_1 rfl ?_
  refine AW.iload_n dX8_set_2 rfl ?_
  refine AW.callV (as := [vi _, vi _]) dX8_set_3 rfl rfl rfl okX8_inRow lkX8_306 W.1 rfl rfl rfl rfl rfl rfl rfl (kX8_inRow W (by assumption) (by assumption) (AW.k1 ?_))
  refine AW.istore dX8_set_6 rfl ?_
  refine AW.iload dX8_set_8 rfl ?_
  refine AW.iconst dX8_set_10 (by decide) ?_
  refine' AW.icmp_eqJ 19 (tgt := 18) dX8_set_11 rfl _ _ _
  rotate_left 2
  · intro c_11 k_11
    refine AW.iconst dX8_set_18 (by decide) ?_
    exact k_11
  · intro c_11 k_11
    refine AW.iconst dX8_set_14 (by decide) ?_
    refine AW.goto (tgt := 19) dX8_set_15 rfl ?_
    exact k_11
  refine AW.top (y := bz (¬ zinR Z r n = -1)) (by unfold bz; (repeat' split) <;> simp_all) ?_
  refine AW.istore dX8_set_19 rfl ?_
  refine AW.iload dX8_set_21 rfl ?_
  refine' AW.if_eqJ 89 (tgt := 88) dX8_set_23 rfl _ _ _
  rotate_left 2
  · intro c_23 k_23
    refine AW.iconst dX8_set_88 (by decide) ?_
    exact k_23
  · intro c_23 k_23
    have c := bz_n0.mp c_23
    have hR2 := hR.resolve_left c
    refine AW.iload_n dX8_set_26 rfl ?_
    refine AW.iconst dX8_set_27 (by decide) ?_
    refine AW.aload_n dX8_set_28 rfl ?_
    refine AW.mA 3 W dX8_set_29 lkX8_16 rfl rfl ?_
    refine AW.bipush dX8_set_32 bp_48 (by decide) ?_
    refine AW.aload_n dX8_set_34 rfl ?_
    refine AW.mA 20 W dX8_set_35 lkX8_62 rfl rfl ?_
    refine AW.iload_n dX8_set_38 rfl ?_
    refine AW.mldE (j := 20) W dX8_set_39 rfl rfl (by simp only [mlen]; omega) rfl ?_
    refine AW.imulB dX8_set_40 (by omega) ?_
    refine AW.iload dX8_set_41 rfl ?_
    refine AW.iaddB dX8_set_43 (by omega) ?_
    refine AW.mldE (j := 3) W dX8_set_44 rfl rfl (by simp only [mlen]; omega) rfl ?_
    refine AW.callS (as := [vi _]) dX8_set_45 rfl rfl rfl okX8_most lkX8_165 rfl rfl rfl rfl rfl rfl (kX8_most  (AW.k1 ?_))
    refine AW.callS (as := [vi _, vi _, vi _]) dX8_set_48 rfl rfl rfl okX8_lies lkX8_144 rfl rfl rfl rfl rfl rfl (kX8_lies  (AW.k1 ?_))
    refine' AW.if_neJ 89 (tgt := 84) dX8_set_51 rfl _ _ _
    rotate_left 2
    · intro c_51 k_51
      refine AW.iconst dX8_set_84 (by decide) ?_
      refine AW.goto (tgt := 89) dX8_set_85 rfl ?_
      exact k_51
    · intro c_51 k_51
      refine AW.iload_n dX8_set_54 rfl ?_
      refine AW.iconst dX8_set_55 (by decide) ?_
      refine' AW.icmp_neJ 89 (tgt := 88) dX8_set_56 rfl _ _ _
      rotate_left 2
      · intro c_56 k_56
        refine AW.iconst dX8_set_88 (by decide) ?_
        exact k_56
      · intro c_56 k_56
        refine AW.aload_n dX8_set_59 rfl ?_
        refine AW.mA 6 W dX8_set_60 lkX8_25 rfl rfl ?_
        refine AW.aload_n dX8_set_63 rfl ?_
        refine AW.mA 20 W dX8_set_64 lkX8_62 rfl rfl ?_
        refine AW.iload_n dX8_set_67 rfl ?_
        refine AW.mldE (j := 20) W dX8_set_68 rfl rfl (by simp only [mlen]; omega) rfl ?_
        refine AW.aload_n dX8_set_69 rfl ?_
        refine AW.mA 21 W dX8_set_70 lkX8_65 rfl rfl ?_
        refine AW.iload_n dX8_set_73 rfl ?_
        refine AW.mldE (j := 21) W dX8_set_74 rfl rfl (by simp only [mlen]; omega) rfl ?_
        refine AW.iload dX8_set_75 rfl ?_
        refine AW.callS (as := [vi _, vi _, vi _]) dX8_set_77 rfl rfl rfl okX8_place lkX8_152 rfl rfl rfl rfl rfl rfl (kX8_place (by omega) (AW.k1 ?_))
        refine AW.mldZE (j := 6) W dX8_set_80 rfl rfl (by simp only [mlen]; omega) rfl ?_
        refine' AW.if_neJ 89 (tgt := 88) dX8_set_81 rfl _ _ _
        rotate_left 2
        · intro c_81 k_81
          refine AW.iconst dX8_set_88 (by decide) ?_
          exact k_81
        · intro c_81 k_81
          refine AW.iconst dX8_set_84 (by decide) ?_
          refine AW.goto (tgt := 89) dX8_set_85 rfl ?_
          exact k_81
        exact k_56
      exact k_51
    exact k_23
  refine AW.top (y := zcSok Z r n x) (by clear hR; unfold zcSok; simp only [bz_0]; unfold bz; (repeat' split) <;> first | (simp_all; done) | grind) ?_
  refine AW.istore dX8_set_89 rfl ?_
  refine AW.aload_n dX8_set_91 rfl ?_
  refine AW.iload dX8_set_92 rfl ?_
  refine' AW.if_neJ 111 (tgt := 101) dX8_set_94 rfl _ _ _
  rotate_left 2
  · intro c_94 k_94
    refine AW.iload dX8_set_101 rfl ?_
    refine' AW.if_eqJ 111 (tgt := 110) dX8_set_103 rfl _ _ _
    rotate_left 2
    · intro c_103 k_103
      refine AW.iconst dX8_set_110 (by decide) ?_
      exact k_103
    · intro c_103 k_103
      refine AW.iconst dX8_set_106 (by decide) ?_
      refine AW.goto (tgt := 111) dX8_set_107 rfl ?_
      exact k_103
    exact k_94
  · intro c_94 k_94
    refine AW.iconst dX8_set_97 (by decide) ?_
    refine AW.goto (tgt := 111) dX8_set_98 rfl ?_
    exact k_94
  refine AW.top (y := zcSet Z r n x) (by clear hR; unfold zcSet cd2; simp only [bz_0]; (repeat' split) <;> simp_all) ?_
  refine AW.callV (as := [vi _]) dX8_set_111 rfl rfl rfl okX8_fails lkX8_162 W.1 rfl rfl rfl rfl rfl rfl rfl (kX8_fails W (AW.k1 ?_))
  refine AW.if_eq (tgt := 119) dX8_set_114 rfl (fun c_114 => ?_) (fun c_114 => ?_)
  · have c := bz_0.mp c_114
    have e : zcSet Z r n x = 0 := by unfold zcSet cd2 at *; (repeat' split at c) <;> omega
    obtain ⟨c1, c2⟩ := cd2_0.mp c
    have hR := hR.resolve_left c1
    rw [e]
    refine AW.aload_n dX8_set_119 rfl ?_
    refine AW.mA 22 W dX8_set_120 lkX8_68 rfl rfl ?_
    refine AW.bipush dX8_set_123 bp_48 (by decide) ?_
    refine AW.iload_n dX8_set_125 rfl ?_
    refine AW.imulB dX8_set_126 (by omega) ?_
    refine AW.iload dX8_set_127 rfl ?_
    refine AW.iaddB dX8_set_129 (by omega) ?_
    refine AW.mldE (j := 22) W dX8_set_130 rfl rfl (by simp only [mlen]; omega) (by (repeat first | apply zs_ne rfl | apply zs_eq (by omega) | apply zs_miss (by omega)); exact rfl) ?_
    refine AW.istore dX8_set_131 rfl ?_
    refine AW.aload_n dX8_set_133 rfl ?_
    refine AW.mA 22 W dX8_set_134 lkX8_68 rfl rfl ?_
    refine AW.bipush dX8_set_137 bp_48 (by decide) ?_
    refine AW.iload_n dX8_set_139 rfl ?_
    refine AW.imulB dX8_set_140 (by omega) ?_
    refine AW.iload dX8_set_141 rfl ?_
    refine AW.iaddB dX8_set_143 (by omega) ?_
    refine AW.iload_n dX8_set_144 rfl ?_
    refine AW.mst (j := 22) W dX8_set_145 rfl rfl (by simp only [mlen]; omega) ?_
    refine AW.aload_n dX8_set_146 rfl ?_
    refine AW.iload_n dX8_set_147 rfl ?_
    refine AW.callV (as := [vi _]) dX8_set_148 rfl rfl rfl okX8_counts lkX8_302 W.1 rfl rfl rfl rfl rfl rfl rfl (kX8_counts W (by omega) (AW.k0 ?_))
    refine AW.iload dX8_set_151 rfl ?_
    refine AW.iret dX8_set_153 rfl ?_
    exact kO e
  · refine AW.iconst dX8_set_117 (by decide) ?_
    refine AW.iret dX8_set_118 rfl ?_
    have c := bz_n0.mp c_114
    exact kE c
def zcVal (Z : ZT) (r v n : Int) : Int := if (0 ≤ r ∧ r ≤ Z 19 0 - 1) ∧ ((0 ≤ Z 20 r.toNat ∧ Z 20 r.toNat < Z 0 0) ∧ 0 ≤ v ∧ v ≤ Z 1 (Z 20 r.toNat).toNat) then zfind Z (Z 20 r.toNat) v n else -1
theorem kX8_value {r v n : Int} (W : WfM h) (B : BI Z) (R : BR Z) (T : BT Z) (kE : zcVal Z r v n = -1 → Q (mput h (zs Z 48 0 1)) (.inl (some (vi 0))))
    (kO : ¬ zcVal Z r v n = -1 → ∀ t l w, Q (mput h (z3 (zsee (zs Z 48 0 0) r v) t l w)) (.inl (some (vi (zsee (zs Z 48 0 0) r v 22 (960 + zcVal Z r v n).toNat))))) : AC mX8_value fX8_value loX8_value 0 0 (mput h Z) [vr mO, vi r, vi v, vi n] Q := by
  have R0 := R.1
  have B0 := B.1.1
  have hR : zcVal Z r v n = -1 ∨ ((0 ≤ r ∧ r < 20) ∧ (0 ≤ Z 20 r.toNat ∧ Z 20 r.toNat < 4) ∧ (0 ≤ v ∧ v ≤ Z 1 (Z 20 r.toNat).toNat) ∧ 0 ≤ zcVal Z r v n ∧ zcVal Z r v n < 46) := by
    unfold zcVal; split
    · next e =>
      have b := R.2 r.toNat (by omega)
      have bs := B.1.2 (Z 20 r.toNat).toNat (by omega)
      rcases zfind_rng (Z := Z) (s := Z 20 r.toNat) (a := v) (n := n) (by omega) with q | ⟨q1, q2, -⟩
      · exact Or.inl q
      · exact Or.inr ⟨by omega, by omega, by omega, by omega, by omega⟩
    · exact Or.inl rfl
  refine AC.mk (by decide) (Nat.le_of_ble_eq_true rfl) ?_
  refine AW.aload_n dX8_value_0 rfl ?_
  refine AW.iload_n dX8_value_1 rfl ?_
  refine AW.callV (as := [vi _]) dX8_value_2 rfl rfl rfl okX8_isRow lkX8_296 W.1 rfl rfl rfl rfl rfl rfl rfl (kX8_isRow W (by assumption) (AW.k1 ?_))
  refine' AW.if_eqJ 38 (tgt := 37) dX8_value_5 rfl _ _ _
  rotate_left 2
  · intro c_5 k_5
    refine AW.iconst dX8_value_37 (by decide) ?_
    exact k_5
  · intro c_5 k_5
    have c := bz_n0.mp c_5
    have b := R.2 r.toNat (by omega)
    have bs := B.1.2 (Z 20 r.toNat).toNat (by omega)
    refine AW.aload_n dX8_value_8 rfl ?_
    refine AW.aload_n dX8_value_9 rfl ?_
    refine AW.mA 20 W dX8_value_10 lkX8_62 rfl rfl ?_
    refine AW.iload_n dX8_value_13 rfl ?_
    refine AW.mldE (j := 20) W dX8_value_14 rfl rfl (by simp only [mlen]; omega) rfl ?_
    refine AW.iload_n dX8_value_15 rfl ?_
    refine AW.callV (as := [vi _, vi _]) dX8_value_16 rfl rfl rfl okX8_isVersion lkX8_219 W.1 rfl rfl rfl rfl rfl rfl rfl (kX8_isVersion W (by assumption) (AW.k1 ?_))
    refine' AW.if_eqJ 38 (tgt := 37) dX8_value_19 rfl _ _ _
    rotate_left 2
    · intro c_19 k_19
      refine AW.iconst dX8_value_37 (by decide) ?_
      exact k_19
    · intro c_19 k_19
      have c2 := bz_n0.mp c_19
      refine AW.aload_n dX8_value_22 rfl ?_
      refine AW.aload_n dX8_value_23 rfl ?_
      refine AW.mA 20 W dX8_value_24 lkX8_62 rfl rfl ?_
      refine AW.iload_n dX8_value_27 rfl ?_
      refine AW.mldE (j := 20) W dX8_value_28 rfl rfl (by simp only [mlen]; omega) rfl ?_
      refine AW.iload_n dX8_value_29 rfl ?_
      refine AW.iload_n dX8_value_30 rfl ?_
      refine AW.callV (as := [vi _, vi _, vi _]) dX8_value_31 rfl rfl rfl okX8_find lkX8_159 W.1 rfl rfl rfl rfl rfl rfl rfl (kX8_find W (by omega) (by omega) (by omega) (AW.k1 ?_))
      refine AW.goto (tgt := 38) dX8_value_34 rfl ?_
      exact k_19
    exact k_5
  refine AW.top (y := zcVal Z r v n) (by clear hR; unfold zcVal; simp only [bz_0]; (repeat' split) <;> simp_all) ?_
  refine AW.istore dX8_value_38 rfl ?_
  refine AW.aload_n dX8_value_40 rfl ?_
  refine AW.iload dX8_value_41 rfl ?_
  refine AW.iconst dX8_value_43 (by decide) ?_
  refine' AW.icmp_neJ 52 (tgt := 51) dX8_value_44 rfl _ _ _
  rotate_left 2
  · intro c_44 k_44
    refine AW.iconst dX8_value_51 (by decide) ?_
    exact k_44
  · intro c_44 k_44
    refine AW.iconst dX8_value_47 (by decide) ?_
    refine AW.goto (tgt := 52) dX8_value_48 rfl ?_
    exact k_44
  refine AW.top (y := bz (zcVal Z r v n = -1)) (by unfold bz; (repeat' split) <;> first | rfl | omega) ?_
  refine AW.callV (as := [vi _]) dX8_value_52 rfl rfl rfl okX8_fails lkX8_162 W.1 rfl rfl rfl rfl rfl rfl rfl (kX8_fails W (AW.k1 ?_))
  refine AW.if_eq (tgt := 60) dX8_value_55 rfl (fun c_55 => ?_) (fun c_55 => ?_)
  · have c := bz_0.mp c_55
    have e : ¬ zcVal Z r v n = -1 := bz_0.mp (by have := bz01 (zcVal Z r v n = -1); omega)
    have hR := hR.resolve_left e
    rw [bz_0.mpr e]
    refine AW.mZ (z3_self (Z := zs Z 48 0 0)).symm ?_
    refine AW.aload_n dX8_value_60 rfl ?_
    refine AW.iload_n dX8_value_61 rfl ?_
    refine AW.iload_n dX8_value_62 rfl ?_
    refine AW.callV (as := [vi _, vi _]) dX8_value_63 rfl rfl rfl okX8_sees lkX8_299 W.1 rfl rfl rfl rfl rfl rfl rfl (kX8_sees (Z := zs Z 48 0 0) (t := zs Z 48 0 0 43) (l := zs Z 48 0 0 44) (w := zs Z 48 0 0 45) W (BI_zs rfl B) (BR_zs rfl R) (BT_c rfl rfl rfl rfl T) (by omega) hR.2.2.1 (fun t l w => (AW.k0 ?_)))
    refine AW.aload_n dX8_value_66 rfl ?_
    refine AW.mA 22 W dX8_value_67 lkX8_68 rfl rfl ?_
    refine AW.sipush dX8_value_70 sp_960 (by decide) ?_
    refine AW.iload dX8_value_73 rfl ?_
    refine AW.iaddB dX8_value_75 (by omega) ?_
    refine AW.mldE (j := 22) W dX8_value_76 rfl rfl (by simp only [mlen]; omega) (by rfl) ?_
    refine AW.iret dX8_value_77 rfl ?_
    exact kO e t l w
  · refine AW.iconst dX8_value_58 (by decide) ?_
    refine AW.iret dX8_value_59 rfl ?_
    have c := bz_n0.mp c_55
    have e : zcVal Z r v n = -1 := bz_n0.mp (by omega)
    rw [bz_1.mpr e]
    exact kE e
theorem kX8_replayed {r n : Int} (W : WfM h) (B : BI Z) (R : BR Z) (kE : zinR Z r n = -1 → Q (mput h (zs Z 48 0 1)) (.inl (some (vi 0))))
    (kO : ¬ zinR Z r n = -1 → Q (mput h (zs Z 48 0 0)) (.inl (some (vi (Z 22 (48 * r + zinR Z r n).toNat))))) : AC mX8_replayed fX8_replayed loX8_replayed 0 0 (mput h Z) [vr mO, vi r, vi n] Q := by
  have hR := zinR_rng B R (r := r) (n := n)
  refine AC.mk (by decide) (Nat.le_of_ble_eq_true rfl) ?_
  refine AW.aload_n dX8_replayed_0 rfl ?_
  refine AW.iload_n dX8_replayed_1 rfl ?_
  refine AW.iload_n dX8_replayed_2 rfl ?_
  refine AW.callV (as := [vi _, vi _]) dX8_replayed_3 rfl rfl rfl okX8_inRow lkX8_306 W.1 rfl rfl rfl rfl rfl rfl rfl (kX8_inRow W (by assumption) (by assumption) (AW.k1 ?_))
  refine AW.istore_n dX8_replayed_6 rfl ?_
  refine AW.aload_n dX8_replayed_7 rfl ?_
  refine AW.iload_n dX8_replayed_8 rfl ?_
  refine AW.iconst dX8_replayed_9 (by decide) ?_
  refine' AW.icmp_neJ 18 (tgt := 17) dX8_replayed_10 rfl _ _ _
  rotate_left 2
  · intro c_10 k_10
    refine AW.iconst dX8_replayed_17 (by decide) ?_
    exact k_10
  · intro c_10 k_10
    refine AW.iconst dX8_replayed_13 (by decide) ?_
    refine AW.goto (tgt := 18) dX8_replayed_14 rfl ?_
    exact k_10
  refine AW.top (y := bz (zinR Z r n = -1)) (by unfold bz; (repeat' split) <;> first | rfl | omega) ?_
  refine AW.callV (as := [vi _]) dX8_replayed_18 rfl rfl rfl okX8_fails lkX8_162 W.1 rfl rfl rfl rfl rfl rfl rfl (kX8_fails W (AW.k1 ?_))
  refine AW.if_eq (tgt := 28) dX8_replayed_21 rfl (fun c_21 => ?_) (fun c_21 => ?_)
  · have c := bz_0.mp c_21
    have e : ¬ zinR Z r n = -1 := bz_0.mp (by have := bz01 (zinR Z r n = -1); omega)
    have hR := hR.resolve_left e
    rw [bz_0.mpr e]
    refine AW.aload_n dX8_replayed_28 rfl ?_
    refine AW.mA 22 W dX8_replayed_29 lkX8_68 rfl rfl ?_
    refine AW.bipush dX8_replayed_32 bp_48 (by decide) ?_
    refine AW.iload_n dX8_replayed_34 rfl ?_
    refine AW.imulB dX8_replayed_35 (by omega) ?_
    refine AW.iload_n dX8_replayed_36 rfl ?_
    refine AW.iaddB dX8_replayed_37 (by omega) ?_
    refine AW.mldE (j := 22) W dX8_replayed_38 rfl rfl (by simp only [mlen]; omega) (by (repeat first | apply zs_ne rfl | apply zs_eq (by omega) | apply zs_miss (by omega)); exact rfl) ?_
    refine AW.iret dX8_replayed_39 rfl ?_
    first | exact kE e | exact kO e
  · have c := bz_n0.mp c_21
    have e : zinR Z r n = -1 := bz_n0.mp (by omega)
    rw [bz_1.mpr e]
    refine AW.iconst dX8_replayed_24 (by decide) ?_
    refine AW.goto (tgt := 39) dX8_replayed_25 rfl ?_
    refine AW.iret dX8_replayed_39 rfl ?_
    first | exact kE e | exact kO e
end M18

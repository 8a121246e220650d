/-! ===== the model: head, field, forms ===== -/
section M9
variable {Q : AH → AO → Prop} {h : AH} {Z : ZT}
theorem zfA_c {Z' : ZT} {s a n : Int} (e : Z' 5 = Z 5) : ∀ k, zfA Z' s a n k = zfA Z s a n k
  | 0 => rfl
  | k + 1 => by unfold zfA; rw [e, zfA_c e k]
theorem zfind_c {Z' : ZT} {s a n : Int} (e : Z' 5 = Z 5) (e2 : Z' 2 = Z 2) : zfind Z' s a n = zfind Z s a n := by
  unfold zfind; rw [zfA_c e, e2]
theorem kX8_head {s : Int} (W : WfM h) (B : BI Z) (kE : ¬ (0 ≤ s ∧ s < Z 0 0) → Q (mput h (zs Z 48 0 1)) (.inl (some (vi 0)))) (kO : (0 ≤ s ∧ s < Z 0 0) → Q (mput h (zs Z 48 0 0)) (.inl (some (vi (100 * Z 1 s.toNat + Z 11 s.toNat))))) : AC mX8_head fX8_head loX8_head 0 0 (mput h Z) [vr mO, vi s] Q := by
  have B0 := B.1.1
  refine AC.mk (by decide) (Nat.le_of_ble_eq_true rfl) ?_
  refine AW.aload_n dX8_head_0 rfl ?_
  refine AW.aload_n dX8_head_1 rfl ?_
  refine AW.iload_n dX8_head_2 rfl ?_
  refine AW.callV (as := [vi _]) dX8_head_3 rfl rfl rfl okX8_isSchema lkX8_156 W.1 rfl rfl rfl rfl rfl rfl rfl (kX8_isSchema W (by assumption) (AW.k1 ?_))
  refine' AW.if_eqJ 14 (tgt := 13) dX8_head_6 rfl _ _ _
  rotate_left 2
  · intro c_6 k_6
    refine AW.iconst dX8_head_13 (by decide) ?_
    exact k_6
  · intro c_6 k_6
    refine AW.iconst dX8_head_9 (by decide) ?_
    refine AW.goto (tgt := 14) dX8_head_10 rfl ?_
    exact k_6
  refine AW.top (y := bz (¬ (0 ≤ s ∧ s < Z 0 0))) (by simp only [bz_0]; unfold bz; (repeat' split) <;> simp_all) ?_
  refine AW.callV (as := [vi _]) dX8_head_14 rfl rfl rfl okX8_fails lkX8_162 W.1 rfl rfl rfl rfl rfl rfl rfl (kX8_fails W (AW.k1 ?_))
  refine AW.if_eq (tgt := 24) dX8_head_17 rfl (fun c_17 => ?_) (fun c_17 => ?_)
  · have c := bz_0.mp c_17
    have e : bz (¬ (0 ≤ s ∧ s < Z 0 0)) = 0 := (bz01 _).resolve_right (by omega)
    have e2 : 0 ≤ s ∧ s < Z 0 0 := by rw [bz_0, Classical.not_not] at e; exact e
    have b := B.1.2 s.toNat (by omega)
    rw [e]
    refine AW.bipush dX8_head_24 bp_100 (by decide) ?_
    refine AW.aload_n dX8_head_26 rfl ?_
    refine AW.mA 1 W dX8_head_27 lkX8_7 rfl rfl ?_
    refine AW.iload_n dX8_head_30 rfl ?_
    refine AW.mldE (j := 1) W dX8_head_31 rfl rfl (by simp only [mlen]; omega) (by (repeat first | apply zs_ne rfl | apply zs_eq (by omega) | apply zs_miss (by omega)); exact rfl) ?_
    refine AW.imulB dX8_head_32 (by omega) ?_
    refine AW.aload_n dX8_head_33 rfl ?_
    refine AW.mA 11 W dX8_head_34 lkX8_41 rfl rfl ?_
    refine AW.iload_n dX8_head_37 rfl ?_
    refine AW.mldE (j := 11) W dX8_head_38 rfl rfl (by simp only [mlen]; omega) (by (repeat first | apply zs_ne rfl | apply zs_eq (by omega) | apply zs_miss (by omega)); exact rfl) ?_
    refine AW.iaddB dX8_head_39 (by omega) ?_
    refine AW.iret dX8_head_40 rfl ?_
    first | exact kO e2 | (have c := bz_n0.mp c_17; have e : bz (¬ (0 ≤ s ∧ s < Z 0 0)) = 1 := (bz01 _).resolve_left (by omega); rw [e]; exact kE (bz_1.mp e))
  · refine AW.iconst dX8_head_20 (by decide) ?_
    refine AW.goto (tgt := 40) dX8_head_21 rfl ?_
    refine AW.iret dX8_head_40 rfl ?_
    first | exact kO e2 | (have c := bz_n0.mp c_17; have e : bz (¬ (0 ≤ s ∧ s < Z 0 0)) = 1 := (bz01 _).resolve_left (by omega); rw [e]; exact kE (bz_1.mp e))
theorem kX8_isVersion {s v : Int} (W : WfM h) (B : BI Z) (k : Q (mput h Z) (.inl (some (vi (bz ((0 ≤ s ∧ s < Z 0 0) ∧ 0 ≤ v ∧ v ≤ Z 1 s.toNat)))))) : AC mX8_isVersion fX8_isVersion loX8_isVersion 0 0 (mput h Z) [vr mO, vi s, vi v] Q := by
  have B0 := B.1.1
  refine AC.mk (by decide) (Nat.le_of_ble_eq_true rfl) ?_
  refine AW.aload_n dX8_isVersion_0 rfl ?_
  refine AW.iload_n dX8_isVersion_1 rfl ?_
  refine AW.callV (as := [vi _]) dX8_isVersion_2 rfl rfl rfl okX8_isSchema lkX8_156 W.1 rfl rfl rfl rfl rfl rfl rfl (kX8_isSchema W (by assumption) (AW.k1 ?_))
  refine' AW.if_eqJ 27 (tgt := 26) dX8_isVersion_5 rfl _ _ _
  rotate_left 2
  · intro c_5 k_5
    refine AW.iconst dX8_isVersion_26 (by decide) ?_
    exact k_5
  · intro c_5 k_5
    have c := bz_n0.mp c_5
    have b := B.1.2 s.toNat (by omega)
    refine AW.iload_n dX8_isVersion_8 rfl ?_
    refine AW.iconst dX8_isVersion_9 (by decide) ?_
    refine AW.aload_n dX8_isVersion_10 rfl ?_
    refine AW.mA 1 W dX8_isVersion_11 lkX8_7 rfl rfl ?_
    refine AW.iload_n dX8_isVersion_14 rfl ?_
    refine AW.mldE (j := 1) W dX8_isVersion_15 rfl rfl (by simp only [mlen]; omega) rfl ?_
    refine AW.callS (as := [vi _, vi _, vi _]) dX8_isVersion_16 rfl rfl rfl okX8_lies lkX8_144 rfl rfl rfl rfl rfl rfl (kX8_lies  (AW.k1 ?_))
    refine' AW.if_eqJ 27 (tgt := 26) dX8_isVersion_19 rfl _ _ _
    rotate_left 2
    · intro c_19 k_19
      refine AW.iconst dX8_isVersion_26 (by decide) ?_
      exact k_19
    · intro c_19 k_19
      refine AW.iconst dX8_isVersion_22 (by decide) ?_
      refine AW.goto (tgt := 27) dX8_isVersion_23 rfl ?_
      exact k_19
    exact k_5
  refine AW.zret dX8_isVersion_27 rfl ?_ ?_
  · (repeat' split) <;> simp
  refine fin1 k rfl ?_
  simp only [bz_0]
  unfold bz
  (repeat' split) <;> simp_all
def zcFie (Z : ZT) (s v n : Int) : Int := cd2 (¬ ((0 ≤ s ∧ s < Z 0 0) ∧ 0 ≤ v ∧ v ≤ Z 1 s.toNat)) (¬ (0 ≤ n ∧ n ≤ 25))
def zFie (Z : ZT) (s v n : Int) : Int := if zfind Z s v n = -1 then -1 else 10 * zfind Z s v n + (if Z 6 (48 * (24 * s + v) + zfind Z s v n).toNat = 0 then 0 else 3) + Z 3 (48 * s + zfind Z s v n).toNat
theorem kX8_field {s v n : Int} (W : WfM h) (B : BI Z) (K : ∀ i, 0 ≤ Z 3 i ∧ Z 3 i ≤ 2) (kE : 0 < zcFie Z s v n → Q (mput h (zs Z 48 0 (zcFie Z s v n))) (.inl (some (vi 0)))) (kO : zcFie Z s v n = 0 → Q (mput h (zs Z 48 0 0)) (.inl (some (vi (zFie Z s v n))))) : AC mX8_field fX8_field loX8_field 0 0 (mput h Z) [vr mO, vi s, vi v, vi n] Q := by
  have B0 := B.1.1
  have hR := zfind_rng (Z := zs Z 48 0 0) (s := s) (a := v) (n := n)
  have eF : zfind (zs Z 48 0 0) s v n = zfind Z s v n := zfind_c rfl rfl
  rw [eF] at hR
  refine AC.mk (by decide) (Nat.le_of_ble_eq_true rfl) ?_
  refine AW.aload_n dX8_field_0 rfl ?_
  refine AW.iload_n dX8_field_1 rfl ?_
  refine AW.iload_n dX8_field_2 rfl ?_
  refine AW.callV (as := [vi _, vi _]) dX8_field_3 rfl rfl rfl okX8_isVersion lkX8_219 W.1 rfl rfl rfl rfl rfl rfl rfl (kX8_isVersion W (by assumption) (AW.k1 ?_))
  refine AW.istore dX8_field_6 rfl ?_
  refine AW.aload_n dX8_field_8 rfl ?_
  refine AW.iload dX8_field_9 rfl ?_
  refine' AW.if_neJ 30 (tgt := 18) dX8_field_11 rfl _ _ _
  rotate_left 2
  · intro c_11 k_11
    refine AW.iload_n dX8_field_18 rfl ?_
    refine AW.callS (as := [vi _]) dX8_field_19 rfl rfl rfl okX8_isName lkX8_148 rfl rfl rfl rfl rfl rfl (kX8_isName  (AW.k1 ?_))
    refine' AW.if_eqJ 30 (tgt := 29) dX8_field_22 rfl _ _ _
    rotate_left 2
    · intro c_22 k_22
      refine AW.iconst dX8_field_29 (by decide) ?_
      exact k_22
    · intro c_22 k_22
      refine AW.iconst dX8_field_25 (by decide) ?_
      refine AW.goto (tgt := 30) dX8_field_26 rfl ?_
      exact k_22
    exact k_11
  · intro c_11 k_11
    refine AW.iconst dX8_field_14 (by decide) ?_
    refine AW.goto (tgt := 30) dX8_field_15 rfl ?_
    exact k_11
  refine AW.top (y := zcFie Z s v n) (by unfold zcFie cd2; simp only [bz_0]; (repeat' split) <;> simp_all) ?_
  refine AW.callV (as := [vi _]) dX8_field_30 rfl rfl rfl okX8_fails lkX8_162 W.1 rfl rfl rfl rfl rfl rfl rfl (kX8_fails W (AW.k1 ?_))
  refine AW.if_eq (tgt := 38) dX8_field_33 rfl (fun c_33 => ?_) (fun c_33 => ?_)
  · have c := bz_0.mp c_33
    have e : zcFie Z s v n = 0 := by unfold zcFie cd2 at *; (repeat' split at c) <;> omega
    obtain ⟨c1, c2⟩ := cd2_0.mp c
    rw [Classical.not_not] at c1 c2
    have b := B.1.2 s.toNat (by omega)
    have hR := hR (show 0 ≤ Z 2 s.toNat by omega)
    rw [e]
    refine AW.aload_n dX8_field_38 rfl ?_
    refine AW.iload_n dX8_field_39 rfl ?_
    refine AW.iload_n dX8_field_40 rfl ?_
    refine AW.iload_n dX8_field_41 rfl ?_
    refine AW.callV (as := [vi _, vi _, vi _]) dX8_field_42 rfl rfl rfl okX8_find lkX8_159 W.1 rfl rfl rfl rfl rfl rfl rfl (kX8_find W (by omega) (by omega) (show 0 ≤ Z 2 s.toNat ∧ Z 2 s.toNat ≤ 48 by omega) (eF ▸ (AW.k1 ?_)))
    refine AW.istore dX8_field_45 rfl ?_
    refine AW.iload dX8_field_47 rfl ?_
    refine AW.iconst dX8_field_49 (by decide) ?_
    refine AW.icmp_ne (tgt := 57) dX8_field_50 rfl (fun c_50 => ?_) (fun c_50 => ?_)
    · have hR := hR.resolve_left c_50
      have K3 := K (48 * s + zfind Z s v n).toNat
      have hR2 : zfind Z s v n < Z 2 s.toNat := hR.2.1
      refine AW.bipush dX8_field_57 bp_10 (by decide) ?_
      refine AW.iload dX8_field_59 rfl ?_
      refine AW.imulB dX8_field_61 (by omega) ?_
      refine AW.aload_n dX8_field_62 rfl ?_
      refine AW.mA 6 W dX8_field_63 lkX8_25 rfl rfl ?_
      refine AW.iload_n dX8_field_66 rfl ?_
      refine AW.iload_n dX8_field_67 rfl ?_
      refine AW.iload dX8_field_68 rfl ?_
      refine AW.callS (as := [vi _, vi _, vi _]) dX8_field_70 rfl rfl rfl okX8_place lkX8_152 rfl rfl rfl rfl rfl rfl (kX8_place (by omega) (AW.k1 ?_))
      refine AW.mldZE (j := 6) W dX8_field_73 rfl rfl (by simp only [mlen]; omega) (by (repeat first | apply zs_ne rfl | apply zs_eq (by omega) | apply zs_miss (by omega)); exact rfl) ?_
      refine' AW.if_eqJ 82 (tgt := 81) dX8_field_74 rfl _ _ _
      rotate_left 2
      · intro c_74 k_74
        refine AW.iconst dX8_field_81 (by decide) ?_
        exact k_74
      · intro c_74 k_74
        refine AW.iconst dX8_field_77 (by decide) ?_
        refine AW.goto (tgt := 82) dX8_field_78 rfl ?_
        exact k_74
      refine AW.iaddB dX8_field_82 (by omega) ?_
      refine AW.aload_n dX8_field_83 rfl ?_
      refine AW.mA 3 W dX8_field_84 lkX8_16 rfl rfl ?_
      refine AW.bipush dX8_field_87 bp_48 (by decide) ?_
      refine AW.iload_n dX8_field_89 rfl ?_
      refine AW.imulB dX8_field_90 (by omega) ?_
      refine AW.iload dX8_field_91 rfl ?_
      refine AW.iaddB dX8_field_93 (by omega) ?_
      refine AW.mldE (j := 3) W dX8_field_94 rfl rfl (by simp only [mlen]; omega) (by (repeat first | apply zs_ne rfl | apply zs_eq (by omega) | apply zs_miss (by omega)); exact rfl) ?_
      refine AW.iaddB dX8_field_95 (by omega) ?_
      refine AW.iret dX8_field_96 rfl ?_
      refine finZ (kO e) rfl ?_
      unfold zFie
      (repeat' split) <;> first | rfl | omega | simp_all
    · refine AW.iconst dX8_field_53 (by decide) ?_
      refine AW.goto (tgt := 96) dX8_field_54 rfl ?_
      refine AW.iret dX8_field_96 rfl ?_
      refine finZ (kO e) rfl ?_
      unfold zFie
      (repeat' split) <;> first | rfl | omega | simp_all
  · refine AW.iconst dX8_field_36 (by decide) ?_
    refine AW.iret dX8_field_37 rfl ?_
    have c := bz_n0.mp c_33
    exact kE c
theorem kX8_form {s : Int} (W : WfM h) (B : BI Z) (kE : 0 < cd2 (¬ (0 ≤ s ∧ s < Z 0 0)) (Z 13 0 = 8) → Q (mput h (zs Z 48 0 (cd2 (¬ (0 ≤ s ∧ s < Z 0 0)) (Z 13 0 = 8)))) (.inl (some (vi 0)))) (kO : cd2 (¬ (0 ≤ s ∧ s < Z 0 0)) (Z 13 0 = 8) = 0 → Q (mput h (zs (zs (zs (zs Z 48 0 0) 14 (Z 13 0).toNat s) 15 (Z 13 0).toNat (Z 1 s.toNat)) 13 0 (Z 13 0 + 1))) (.inl (some (vi (Z 13 0))))) : AC mX8_form fX8_form loX8_form 0 0 (mput h Z) [vr mO, vi s] Q := by
  have B0 := B.1.1
  have G0 := B.2.2.2.1.1
  refine AC.mk (by decide) (Nat.le_of_ble_eq_true rfl) ?_
  refine AW.aload_n dX8_form_0 rfl ?_
  refine AW.iload_n dX8_form_1 rfl ?_
  refine AW.callV (as := [vi _]) dX8_form_2 rfl rfl rfl okX8_isSchema lkX8_156 W.1 rfl rfl rfl rfl rfl rfl rfl (kX8_isSchema W (by assumption) (AW.k1 ?_))
  refine AW.istore_n dX8_form_5 rfl ?_
  refine AW.aload_n dX8_form_6 rfl ?_
  refine AW.iload_n dX8_form_7 rfl ?_
  refine' AW.if_neJ 29 (tgt := 15) dX8_form_8 rfl _ _ _
  rotate_left 2
  · intro c_8 k_8
    refine AW.aload_n dX8_form_15 rfl ?_
    refine AW.mSE 13 W dX8_form_16 lkX8_206 rfl rfl rfl ?_
    refine AW.bipush dX8_form_19 bp_8 (by decide) ?_
    refine' AW.icmp_neJ 29 (tgt := 28) dX8_form_21 rfl _ _ _
    rotate_left 2
    · intro c_21 k_21
      refine AW.iconst dX8_form_28 (by decide) ?_
      exact k_21
    · intro c_21 k_21
      refine AW.iconst dX8_form_24 (by decide) ?_
      refine AW.goto (tgt := 29) dX8_form_25 rfl ?_
      exact k_21
    exact k_8
  · intro c_8 k_8
    refine AW.iconst dX8_form_11 (by decide) ?_
    refine AW.goto (tgt := 29) dX8_form_12 rfl ?_
    exact k_8
  refine AW.top (y := cd2 (¬ (0 ≤ s ∧ s < Z 0 0)) (Z 13 0 = 8)) (by unfold cd2; simp only [bz_0]; (repeat' split) <;> simp_all) ?_
  refine AW.callV (as := [vi _]) dX8_form_29 rfl rfl rfl okX8_fails lkX8_162 W.1 rfl rfl rfl rfl rfl rfl rfl (kX8_fails W (AW.k1 ?_))
  refine AW.if_eq (tgt := 37) dX8_form_32 rfl (fun c_32 => ?_) (fun c_32 => ?_)
  · have c := bz_0.mp c_32
    have e : cd2 (¬ (0 ≤ s ∧ s < Z 0 0)) (Z 13 0 = 8) = 0 := by unfold cd2 at *; (repeat' split at c) <;> omega
    obtain ⟨c1, c2⟩ := cd2_0.mp c
    rw [Classical.not_not] at c1
    rw [e]
    refine AW.aload_n dX8_form_37 rfl ?_
    refine AW.mA 14 W dX8_form_38 lkX8_47 rfl rfl ?_
    refine AW.aload_n dX8_form_41 rfl ?_
    refine AW.mSE 13 W dX8_form_42 lkX8_206 rfl rfl (by (repeat first | apply zs_ne rfl | apply zs_eq (by omega) | apply zs_miss (by omega)); exact rfl) ?_
    refine AW.iload_n dX8_form_45 rfl ?_
    refine AW.mst (j := 14) W dX8_form_46 rfl rfl (by simp only [mlen]; omega) ?_
    refine AW.aload_n dX8_form_47 rfl ?_
    refine AW.mA 15 W dX8_form_48 lkX8_50 rfl rfl ?_
    refine AW.aload_n dX8_form_51 rfl ?_
    refine AW.mSE 13 W dX8_form_52 lkX8_206 rfl rfl (by (repeat first | apply zs_ne rfl | apply zs_eq (by omega) | apply zs_miss (by omega)); exact rfl) ?_
    refine AW.aload_n dX8_form_55 rfl ?_
    refine AW.mA 1 W dX8_form_56 lkX8_7 rfl rfl ?_
    refine AW.iload_n dX8_form_59 rfl ?_
    refine AW.mldE (j := 1) W dX8_form_60 rfl rfl (by simp only [mlen]; omega) (by (repeat first | apply zs_ne rfl | apply zs_eq (by omega) | apply zs_miss (by omega)); exact rfl) ?_
    refine AW.mst (j := 15) W dX8_form_61 rfl rfl (by simp only [mlen]; omega) ?_
    refine AW.aload_n dX8_form_62 rfl ?_
    refine AW.dup dX8_form_63 rfl ?_
    refine AW.mSE 13 W dX8_form_64 lkX8_206 rfl rfl (by (repeat first | apply zs_ne rfl | apply zs_eq (by omega) | apply zs_miss (by omega)); exact rfl) ?_
    refine AW.iconst dX8_form_67 (by decide) ?_
    refine AW.iaddB dX8_form_68 (by omega) ?_
    refine AW.mSp 13 W dX8_form_69 lkX8_206 rfl rfl rfl ?_
    refine AW.aload_n dX8_form_72 rfl ?_
    refine AW.mSE 13 W dX8_form_73 lkX8_206 rfl rfl (by (repeat first | apply zs_ne rfl | apply zs_eq (by omega) | apply zs_miss (by omega)); exact rfl) ?_
    refine AW.pcs (pc2 := 76) rfl ?_
    refine AW.iconst dX8_form_76 (by decide) ?_
    refine AW.isubB dX8_form_77 (by omega) ?_
    refine AW.iret dX8_form_78 rfl ?_
    refine finZ (kO e) rfl (by omega)
  · refine AW.iconst dX8_form_35 (by decide) ?_
    refine AW.iret dX8_form_36 rfl ?_
    have c := bz_n0.mp c_32
    exact kE c
theorem kX8_isForm {g : Int} (W : WfM h) (B : BI Z) (k : Q (mput h Z) (.inl (some (vi (bz (0 ≤ g ∧ g ≤ Z 13 0 - 1)))))) : AC mX8_isForm fX8_isForm loX8_isForm 0 0 (mput h Z) [vr mO, vi g] Q := by
  have G0 := B.2.2.2.1.1
  refine AC.mk (by decide) (Nat.le_of_ble_eq_true rfl) ?_
  refine AW.iload_n dX8_isForm_0 rfl ?_
  refine AW.iconst dX8_isForm_1 (by decide) ?_
  refine AW.aload_n dX8_isForm_2 rfl ?_
  refine AW.mSE 13 W dX8_isForm_3 lkX8_206 rfl rfl rfl ?_
  refine AW.iconst dX8_isForm_6 (by decide) ?_
  refine AW.isubB dX8_isForm_7 (by omega) ?_
  refine AW.callS (as := [vi _, vi _, vi _]) dX8_isForm_8 rfl rfl rfl okX8_lies lkX8_144 rfl rfl rfl rfl rfl rfl (kX8_lies  (AW.k1 ?_))
  refine AW.zret dX8_isForm_11 rfl ?_ ?_
  · exact bz01 _
  exact k
def zinF (Z : ZT) (g n : Int) : Int := if 0 ≤ g ∧ g ≤ Z 13 0 - 1 then zfind Z (Z 14 g.toNat) (Z 15 g.toNat) n else -1
theorem kX8_inForm {g n : Int} (W : WfM h) (B : BI Z) (k : Q (mput h Z) (.inl (some (vi (zinF Z g n))))) : AC mX8_inForm fX8_inForm loX8_inForm 0 0 (mput h Z) [vr mO, vi g, vi n] Q := by
  have G0 := B.2.2.2.1.1
  refine AC.mk (by decide) (Nat.le_of_ble_eq_true rfl) ?_
  refine AW.aload_n dX8_inForm_0 rfl ?_
  refine AW.iload_n dX8_inForm_1 rfl ?_
  refine AW.callV (as := [vi _]) dX8_inForm_2 rfl rfl rfl okX8_isForm lkX8_232 W.1 rfl rfl rfl rfl rfl rfl rfl (kX8_isForm W (by assumption) (AW.k1 ?_))
  refine' AW.if_eqJ 29 (tgt := 28) dX8_inForm_5 rfl _ _ _
  rotate_left 2
  · intro c_5 k_5
    refine AW.iconst dX8_inForm_28 (by decide) ?_
    exact k_5
  · intro c_5 k_5
    have c := bz_n0.mp c_5
    have b := B.2.2.2.1.2 g.toNat (by omega)
    have bs := B.1.2 (Z 14 g.toNat).toNat (by omega)
    refine AW.aload_n dX8_inForm_8 rfl ?_
    refine AW.aload_n dX8_inForm_9 rfl ?_
    refine AW.mA 14 W dX8_inForm_10 lkX8_47 rfl rfl ?_
    refine AW.iload_n dX8_inForm_13 rfl ?_
    refine AW.mldE (j := 14) W dX8_inForm_14 rfl rfl (by simp only [mlen]; omega) rfl ?_
    refine AW.aload_n dX8_inForm_15 rfl ?_
    refine AW.mA 15 W dX8_inForm_16 lkX8_50 rfl rfl ?_
    refine AW.iload_n dX8_inForm_19 rfl ?_
    refine AW.mldE (j := 15) W dX8_inForm_20 rfl rfl (by simp only [mlen]; omega) rfl ?_
    refine AW.iload_n dX8_inForm_21 rfl ?_
    refine AW.callV (as := [vi _, vi _, vi _]) dX8_inForm_22 rfl rfl rfl okX8_find lkX8_159 W.1 rfl rfl rfl rfl rfl rfl rfl (kX8_find W (by omega) (by omega) (by omega) (AW.k1 ?_))
    refine AW.goto (tgt := 29) dX8_inForm_25 rfl ?_
    exact k_5
  refine AW.iret dX8_inForm_29 rfl ?_
  refine fin1 k rfl ?_
  unfold zinF
  simp only [bz_0]
  (repeat' split) <;> simp_all
theorem zinF_rng (B : BI Z) {g n : Int} : zinF Z g n = -1 ∨ ((0 ≤ g ∧ g < 8 ∧ g < Z 13 0) ∧ (0 ≤ Z 14 g.toNat ∧ Z 14 g.toNat < 4) ∧ (0 ≤ Z 15 g.toNat ∧ Z 15 g.toNat ≤ Z 1 (Z 14 g.toNat).toNat ∧ Z 15 g.toNat ≤ 23) ∧ 0 ≤ zinF Z g n ∧ zinF Z g n < Z 2 (Z 14 g.toNat).toNat ∧ zinF Z g n < 46) := by
  have G0 := B.2.2.2.1.1
  unfold zinF; split
  · next e =>
    have b := B.2.2.2.1.2 g.toNat (by omega)
    have bs := B.1.2 (Z 14 g.toNat).toNat (by omega)
    rcases zfind_rng (Z := Z) (s := Z 14 g.toNat) (a := Z 15 g.toNat) (n := n) (by omega) with q | ⟨q1, q2, -⟩
    · exact Or.inl q
    · exact Or.inr ⟨by omega, by omega, by omega, by omega, by omega, by omega⟩
  · exact Or.inl rfl
end M9

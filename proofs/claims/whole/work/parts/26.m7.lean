/-! ===== the model: drops ===== -/
section M7
variable {Q : AH → AO → Prop} {h : AH} {Z : ZT}
theorem zs_zrow_c {j j0 i : Nat} {t : Nat → Int} {v : Int} (hj : Nat.beq j j0 = false) : zs (zrow Z j0 t) j i v = zrow (zs Z j i v) j0 t := by
  have hj' : ¬ j = j0 := fun e => by subst e; simp at hj
  funext a b
  unfold zs zrow
  by_cases e : a = j0
  · rw [if_neg (fun z => hj' (z.1.symm.trans e)), if_pos e, if_pos e]
  · rw [if_neg e, if_neg e]
theorem zcp_zrow {s a : Int} {n : Nat} {t : Nat → Int} : zcp (zrow Z 46 t) s a n = zrow (zcp Z s a n) 46 t := by
  funext j i
  unfold zcp zrow
  by_cases e : j = 46
  · rw [if_neg (fun z => by have := z.1; omega), if_pos e, if_pos e]
  · rw [if_neg e, if_neg e, if_neg e]
theorem zbeg_zrow {s a f w : Int} {t : Nat → Int} : zbeg (zrow Z 46 t) s a f w = zrow (zbeg Z s a f w) 46 t := by
  unfold zbeg
  rw [zcp_zrow, zs_zrow_c rfl, zs_zrow_c rfl, zs_zrow_c rfl, zs_zrow_c rfl, zs_zrow_c rfl, zs_zrow_c rfl]
def zdo (Z : ZT) (s f : Int) : ZT := zs (zs (zbeg Z s (Z 1 s.toNat + 1) (Z 2 s.toNat) 5) 5 (48 * (24 * s + (Z 1 s.toNat + 1)) + f).toNat (-1)) 8 (2 * (24 * s + (Z 1 s.toNat + 1))).toNat f
theorem zdo_zrow {s f : Int} {t : Nat → Int} : zdo (zrow Z 46 t) s f = zrow (zdo Z s f) 46 t := by
  unfold zdo
  rw [zrow_ne (x := Z 1 s.toNat) rfl rfl, zrow_ne (x := Z 2 s.toNat) rfl rfl, zbeg_zrow, zs_zrow_c rfl, zs_zrow_c rfl]
/-- all bounds -/
def BW (Z : ZT) : Prop := ∀ i, 0 ≤ Z 12 i ∧ Z 12 i < 48
def BI (Z : ZT) : Prop := BS Z ∧ BF Z ∧ BB Z ∧ BG Z ∧ BW Z ∧ (∀ s : Nat, s < 4 → Z 2 s ≤ 2 * Z 1 s)
theorem BI_zs {j i : Nat} {v : Int} (hj : (j == 3 || j == 4 || j == 5 || j == 7 || j == 10 || j == 48 || j == 19 || j == 20 || j == 21 || j == 22 || j == 23 || j == 24 || j == 25) = true) (B : BI Z) : BI (zs Z j i v) := by
  have e : ∀ j', (j' == 0 || j' == 1 || j' == 2 || j' == 11 || j' == 6 || j' == 16 || j' == 17 || j' == 18 || j' == 46 || j' == 47 || j' == 8 || j' == 9 || j' == 13 || j' == 14 || j' == 15 || j' == 12) = true → zs Z j i v j' = Z j' := by
    intro j' hj'
    funext q
    unfold zs
    rw [if_neg]
    rintro ⟨rfl, -⟩
    revert hj hj'
    simp only [Bool.or_eq_true, beq_iff_eq]
    omega
  obtain ⟨b1, b2, b3, b4, b5, b6⟩ := B
  refine ⟨?_, ?_, ?_, ?_, ?_, ?_⟩
  · unfold BS; rw [e 0 rfl, e 1 rfl, e 2 rfl, e 11 rfl]; exact b1
  · intro j' hm q
    have hm2 : j' = 6 ∨ j' = 16 ∨ j' = 17 ∨ j' = 18 ∨ j' = 46 ∨ j' = 47 := by
      unfold mkd at hm; split at hm <;> simp_all
    rw [e j' (by simp only [Bool.or_eq_true, beq_iff_eq]; omega)]
    exact b2 j' hm q
  · unfold BB; rw [e 8 rfl, e 9 rfl]; exact b3
  · unfold BG; rw [e 13 rfl, e 14 rfl, e 15 rfl, e 1 rfl]; exact b4
  · unfold BW; rw [e 12 rfl]; exact b5
  · rw [e 1 rfl, e 2 rfl]; exact b6
theorem BI_z8 {i : Nat} {v : Int} (hv : -1 ≤ v ∧ v < 48) (B : BI Z) : BI (zs Z 8 i v) := by
  obtain ⟨b1, b2, b3, b4, b5, b6⟩ := B
  refine ⟨b1, fun j hm q => ?_, fun q => ?_, b4, b5, b6⟩
  · unfold zs; rw [if_neg]
    · exact b2 j hm q
    · rintro ⟨rfl, -⟩; exact absurd hm (by decide)
  · refine ⟨?_, (b3 q).2⟩
    unfold zs; split
    · exact hv
    · exact (b3 q).1
theorem BI_z9 {i : Nat} {v : Int} (hv : -1 ≤ v ∧ v < 48) (B : BI Z) : BI (zs Z 9 i v) := by
  obtain ⟨b1, b2, b3, b4, b5, b6⟩ := B
  refine ⟨b1, fun j hm q => ?_, fun q => ?_, b4, b5, b6⟩
  · unfold zs; rw [if_neg]
    · exact b2 j hm q
    · rintro ⟨rfl, -⟩; exact absurd hm (by decide)
  · refine ⟨(b3 q).1, ?_⟩
    unfold zs; split
    · exact hv
    · exact (b3 q).2
theorem BI_z12 {i : Nat} {v : Int} (hv : 0 ≤ v ∧ v < 48) (B : BI Z) : BI (zs Z 12 i v) := by
  obtain ⟨b1, b2, b3, b4, b5, b6⟩ := B
  refine ⟨b1, fun j hm q => ?_, b3, b4, fun q => ?_, b6⟩
  · unfold zs; rw [if_neg]
    · exact b2 j hm q
    · rintro ⟨rfl, -⟩; exact absurd hm (by decide)
  · unfold zs; split
    · exact hv
    · exact b5 q
theorem BI_fl {j i : Nat} {v : Int} (hj : (j == 6 || j == 16 || j == 17 || j == 18 || j == 46 || j == 47) = true) (hv : v = 0 ∨ v = 1) (B : BI Z) : BI (zs Z j i v) := by
  have e : ∀ j', (j' == 0 || j' == 1 || j' == 2 || j' == 11 || j' == 8 || j' == 9 || j' == 13 || j' == 14 || j' == 15 || j' == 12) = true → zs Z j i v j' = Z j' := by
    intro j' hj'
    funext q
    unfold zs
    rw [if_neg]
    rintro ⟨rfl, -⟩
    revert hj hj'
    simp only [Bool.or_eq_true, beq_iff_eq]
    omega
  obtain ⟨b1, b2, b3, b4, b5, b6⟩ := B
  refine ⟨?_, ?_, ?_, ?_, ?_, ?_⟩
  · unfold BS; rw [e 0 rfl, e 1 rfl, e 2 rfl, e 11 rfl]; exact b1
  · intro j' hm q
    unfold zs; split
    · exact hv
    · exact b2 j' hm q
  · unfold BB; rw [e 8 rfl, e 9 rfl]; exact b3
  · unfold BG; rw [e 13 rfl, e 14 rfl, e 15 rfl, e 1 rfl]; exact b4
  · unfold BW; rw [e 12 rfl]; exact b5
  · rw [e 1 rfl, e 2 rfl]; exact b6
theorem BI_z1 {s : Nat} {v : Int} (hv : Z 1 s ≤ v ∧ v ≤ 23) (B : BI Z) : BI (zs Z 1 s v) := by
  obtain ⟨b1, b2, b3, b4, b5, b6⟩ := B
  refine ⟨⟨b1.1, fun q hq => ?_⟩, fun j hm q => ?_, b3, ⟨b4.1, fun g hg => ?_⟩, b5, fun q hq => ?_⟩
  · have b := b1.2 q hq
    have e : zs Z 1 s v 1 q = Z 1 q ∨ (q = s ∧ zs Z 1 s v 1 q = v) := by
      unfold zs; split
      · next z => exact Or.inr ⟨z.2, rfl⟩
      · exact Or.inl rfl
    refine ⟨?_, ?_, b.2.2⟩
    · rcases e with e | ⟨rfl, e⟩ <;> rw [e] <;> omega
    · rcases e with e | ⟨rfl, e⟩ <;> rw [e] <;> omega
  · unfold zs; rw [if_neg]
    · exact b2 j hm q
    · rintro ⟨rfl, -⟩; exact absurd hm (by decide)
  · have b := b4.2 g hg
    have e : zs Z 1 s v 1 (Z 14 g).toNat = Z 1 (Z 14 g).toNat ∨ ((Z 14 g).toNat = s ∧ zs Z 1 s v 1 (Z 14 g).toNat = v) := by
      unfold zs; split
      · next z => exact Or.inr ⟨z.2, rfl⟩
      · exact Or.inl rfl
    refine ⟨b.1, b.2.1, b.2.2.1, ?_⟩
    show Z 15 g ≤ zs Z 1 s v 1 (Z 14 g).toNat
    rcases e with e | ⟨e1, e⟩
    · rw [e]; exact b.2.2.2
    · rw [e]; subst e1; omega
  · have b := b6 q hq
    have e : zs Z 1 s v 1 q = Z 1 q ∨ (q = s ∧ zs Z 1 s v 1 q = v) := by
      unfold zs; split
      · next z => exact Or.inr ⟨z.2, rfl⟩
      · exact Or.inl rfl
    show Z 2 q ≤ 2 * zs Z 1 s v 1 q
    rcases e with e | ⟨rfl, e⟩ <;> rw [e] <;> omega
theorem BI_zcp {s a : Int} {n : Nat} (B : BI Z) : BI (zcp Z s a n) := by
  have e : ∀ j', (j' != 5 && j' != 6) = true → zcp Z s a n j' = Z j' := by
    intro j' hj'
    funext q
    exact zcp_o hj' rfl
  obtain ⟨b1, b2, b3, b4, b5, b6⟩ := B
  refine ⟨?_, ?_, ?_, ?_, ?_, ?_⟩
  · unfold BS; rw [e 0 rfl, e 1 rfl, e 2 rfl, e 11 rfl]; exact b1
  · intro j' hm q
    unfold zcp; split
    · exact b2 j' hm _
    · exact b2 j' hm q
  · unfold BB; rw [e 8 rfl, e 9 rfl]; exact b3
  · unfold BG; rw [e 13 rfl, e 14 rfl, e 15 rfl, e 1 rfl]; exact b4
  · unfold BW; rw [e 12 rfl]; exact b5
  · rw [e 1 rfl, e 2 rfl]; exact b6
theorem BI_zbeg {s a f w : Int} (B : BI Z) (ha : Z 1 s.toNat ≤ a ∧ a ≤ 23) : BI (zbeg Z s a f w) := by
  unfold zbeg
  refine BI_z9 (by omega) (BI_z9 (by omega) (BI_z8 (by omega) (BI_z8 (by omega) (BI_zs rfl (BI_z1 ?_ (BI_zcp B))))))
  rw [zcp_o rfl rfl]; exact ha
theorem BI_zdo {s f : Int} (B : BI Z) (ha : Z 1 s.toNat < 23) (hf : 0 ≤ f ∧ f < 48) : BI (zdo Z s f) := by
  unfold zdo
  exact BI_z8 (by omega) (BI_zs rfl (BI_zbeg B (by omega)))
theorem BI_zrow {t : Nat → Int} (B : BI Z) (F : flg t) : BI (zrow Z 46 t) := by
  obtain ⟨b1, b2, b3, b4, b5, b6⟩ := B
  refine ⟨b1, fun j hm q => ?_, b3, b4, b5, b6⟩
  unfold zrow; split
  · exact F q
  · exact b2 j hm q
theorem kX8_dropsOut {s f : Int} (W : WfM h) (B : BI Z) (hs : 0 ≤ s ∧ s < 4) (hf : 0 ≤ f ∧ f < 48) (ha : Z 1 s.toNat < 23) (k : Q (mput h (zdo Z s f)) (.inl none)) : AC mX8_dropsOut fX8_dropsOut loX8_dropsOut 0 0 (mput h Z) [vr mO, vi s, vi f] Q := by
  have b := B.1.2 s.toNat (by omega)
  refine AC.mk (by decide) (Nat.le_of_ble_eq_true rfl) ?_
  refine AW.aload_n dX8_dropsOut_0 rfl ?_
  refine AW.iload_n dX8_dropsOut_1 rfl ?_
  refine AW.iconst dX8_dropsOut_2 (by decide) ?_
  refine AW.callV (as := [vi _, vi _]) dX8_dropsOut_3 rfl rfl rfl okX8_begins lkX8_176 W.1 rfl rfl rfl rfl rfl rfl rfl (kX8_begins (a := Z 1 s.toNat + 1) (f := Z 2 s.toNat) W (by omega) rfl rfl (by omega) (by omega) (B.2.1 6 rfl) (AW.k1 ?_))
  refine AW.istore_n dX8_dropsOut_6 rfl ?_
  refine AW.aload_n dX8_dropsOut_7 rfl ?_
  refine AW.iload_n dX8_dropsOut_8 rfl ?_
  refine AW.iload_n dX8_dropsOut_9 rfl ?_
  refine AW.callV (as := [vi _, vi _]) dX8_dropsOut_10 rfl rfl rfl okX8_ends lkX8_187 W.1 rfl rfl rfl rfl rfl rfl rfl (kX8_ends (a := Z 1 s.toNat + 1) W (by omega) (zbeg_h rfl) (by omega) (by omega) (AW.k0 ?_))
  refine AW.aload_n dX8_dropsOut_13 rfl ?_
  refine AW.mA 8 W dX8_dropsOut_14 lkX8_32 rfl rfl ?_
  refine AW.iconst dX8_dropsOut_17 (by decide) ?_
  refine AW.iload_n dX8_dropsOut_18 rfl ?_
  refine AW.imulB dX8_dropsOut_19 (by omega) ?_
  refine AW.iload_n dX8_dropsOut_20 rfl ?_
  refine AW.mst (j := 8) W dX8_dropsOut_21 rfl rfl (by simp only [mlen]; omega) ?_
  refine AW.vret dX8_dropsOut_22 rfl ?_
  exact k
def zcDro (Z : ZT) (s n : Int) : Int := cd2 (zatH Z s n = -1) (¬ zwt Z s (zatH Z s n) = 0 ∨ Z 1 s.toNat = 23)
theorem kX8_drop {s n : Int} (W : WfM h) (B : BI Z) (kE : 0 < zcDro Z s n → Q (mput h (zs Z 48 0 (zcDro Z s n))) (.inl (some (vi 0))))
    (kO : zcDro Z s n = 0 → ∀ t, flg t → zhu (zs Z 48 0 0) s (zatH Z s n) = 0 → Q (mput h (zrow (zdo (zs Z 48 0 0) s (zatH Z s n)) 46 t)) (.inl (some (vi 1))))
    (kW : zcDro Z s n = 0 → ∀ t, flg t → ¬ zhu (zs Z 48 0 0) s (zatH Z s n) = 0 → Q (mput h (zrow (zs (zs (zs Z 48 0 0) 12 (48 * s + Z 11 s.toNat).toNat (zatH Z s n)) 11 s.toNat (Z 11 s.toNat + 1)) 46 t)) (.inl (some (vi 0)))) :
    AC mX8_drop fX8_drop loX8_drop 0 0 (mput h Z) [vr mO, vi s, vi n] Q := by
  have S := B.1
  have hR := zatH_rng S (s := s) (n := n)
  refine AC.mk (by decide) (Nat.le_of_ble_eq_true rfl) ?_
  refine AW.aload_n dX8_drop_0 rfl ?_
  refine AW.iload_n dX8_drop_1 rfl ?_
  refine AW.iload_n dX8_drop_2 rfl ?_
  refine AW.callV (as := [vi _, vi _]) dX8_drop_3 rfl rfl rfl okX8_atHead lkX8_169 W.1 rfl rfl rfl rfl rfl rfl rfl (kX8_atHead W (by assumption) (AW.k1 ?_))
  refine AW.istore_n dX8_drop_6 rfl ?_
  refine AW.aload_n dX8_drop_7 rfl ?_
  refine AW.iload_n dX8_drop_8 rfl ?_
  refine AW.iconst dX8_drop_9 (by decide) ?_
  refine' AW.icmp_neJ 39 (tgt := 17) dX8_drop_10 rfl _ _ _
  rotate_left 2
  · intro c_10 k_10
    have hR2 := hR.resolve_left c_10
    have b := S.2 s.toNat (by omega)
    refine AW.aload_n dX8_drop_17 rfl ?_
    refine AW.iload_n dX8_drop_18 rfl ?_
    refine AW.iload_n dX8_drop_19 rfl ?_
    refine AW.callV (as := [vi _, vi _]) dX8_drop_20 rfl rfl rfl okX8_isWaiting lkX8_183 W.1 rfl rfl rfl rfl rfl rfl rfl (kX8_isWaiting W (by omega) (by omega) (AW.k1 ?_))
    refine' AW.if_neJ 39 (tgt := 34) dX8_drop_23 rfl _ _ _
    rotate_left 2
    · intro c_23 k_23
      refine AW.iconst dX8_drop_34 (by decide) ?_
      refine AW.goto (tgt := 39) dX8_drop_35 rfl ?_
      exact k_23
    · intro c_23 k_23
      refine AW.aload_n dX8_drop_26 rfl ?_
      refine AW.iload_n dX8_drop_27 rfl ?_
      refine AW.callV (as := [vi _]) dX8_drop_28 rfl rfl rfl okX8_isLast lkX8_173 W.1 rfl rfl rfl rfl rfl rfl rfl (kX8_isLast W (by omega) (AW.k1 ?_))
      refine' AW.if_eqJ 39 (tgt := 38) dX8_drop_31 rfl _ _ _
      rotate_left 2
      · intro c_31 k_31
        refine AW.iconst dX8_drop_38 (by decide) ?_
        exact k_31
      · intro c_31 k_31
        refine AW.iconst dX8_drop_34 (by decide) ?_
        refine AW.goto (tgt := 39) dX8_drop_35 rfl ?_
        exact k_31
      exact k_23
    exact k_10
  · intro c_10 k_10
    refine AW.iconst dX8_drop_13 (by decide) ?_
    refine AW.goto (tgt := 39) dX8_drop_14 rfl ?_
    exact k_10
  refine AW.top (y := zcDro Z s n) (by clear hR; unfold zcDro cd2; simp only [bz_0, Classical.not_not]; (repeat' split) <;> simp_all) ?_
  refine AW.callV (as := [vi _]) dX8_drop_39 rfl rfl rfl okX8_fails lkX8_162 W.1 rfl rfl rfl rfl rfl rfl rfl (kX8_fails W (AW.k1 ?_))
  refine AW.if_eq (tgt := 47) dX8_drop_42 rfl (fun c_42 => ?_) (fun c_42 => ?_)
  · have c := bz_0.mp c_42
    have e : zcDro Z s n = 0 := by unfold zcDro cd2 at *; (repeat' split at c) <;> omega
    obtain ⟨c1, c2⟩ := cd2_0.mp c
    have hR := hR.resolve_left c1
    have b := S.2 s.toNat (by omega)
    rw [not_or] at c2
    rw [e]
    refine AW.mZ (zrow_self (j := 46)).symm ?_
    have B2 : BI (zs Z 48 0 0) := BI_zs rfl B
    refine AW.aload_n dX8_drop_47 rfl ?_
    refine AW.iload_n dX8_drop_48 rfl ?_
    refine AW.iload_n dX8_drop_49 rfl ?_
    refine AW.callV (as := [vi _, vi _]) dX8_drop_50 rfl rfl rfl okX8_isHeldUp lkX8_213 W.1 rfl rfl rfl rfl rfl rfl rfl (kX8_isHeldUp W B2.2.2.1 B2.1 B2.2.2.2.1 (B2.2.1 46 rfl) (by omega) (by omega) (fun t F => (AW.k1 ?_)))
    refine' AW.if_neJ 61 (tgt := 60) dX8_drop_53 rfl _ _ _
    rotate_left 2
    · intro c_53 k_53
      refine AW.iconst dX8_drop_60 (by decide) ?_
      exact k_53
    · intro c_53 k_53
      refine AW.iconst dX8_drop_56 (by decide) ?_
      refine AW.goto (tgt := 61) dX8_drop_57 rfl ?_
      exact k_53
    refine AW.top (y := bz (zhu (zs Z 48 0 0) s (zatH Z s n) = 0)) (by unfold bz; (repeat' split) <;> simp_all) ?_
    refine AW.istore dX8_drop_61 rfl ?_
    refine AW.iload dX8_drop_63 rfl ?_
    refine AW.if_eq (tgt := 77) dX8_drop_65 rfl (fun c_65 => ?_) (fun c_65 => ?_)
    · refine AW.aload_n dX8_drop_77 rfl ?_
      refine AW.mA 12 W dX8_drop_78 lkX8_44 rfl rfl ?_
      refine AW.bipush dX8_drop_81 bp_48 (by decide) ?_
      refine AW.iload_n dX8_drop_83 rfl ?_
      refine AW.imulB dX8_drop_84 (by omega) ?_
      refine AW.aload_n dX8_drop_85 rfl ?_
      refine AW.mA 11 W dX8_drop_86 lkX8_41 rfl rfl ?_
      refine AW.iload_n dX8_drop_89 rfl ?_
      refine AW.mldE (j := 11) W dX8_drop_90 rfl rfl (by simp only [mlen]; omega) (by (repeat first | apply zs_ne rfl | apply zs_eq (by omega) | apply zs_miss (by omega) | apply zrow_ne rfl); exact rfl) ?_
      refine AW.iaddB dX8_drop_91 (by omega) ?_
      refine AW.iload_n dX8_drop_92 rfl ?_
      refine AW.mst (j := 12) W dX8_drop_93 rfl rfl (by simp only [mlen]; omega) ?_
      refine AW.aload_n dX8_drop_94 rfl ?_
      refine AW.mA 11 W dX8_drop_95 lkX8_41 rfl rfl ?_
      refine AW.iload_n dX8_drop_98 rfl ?_
      refine AW.dup2 dX8_drop_99 rfl rfl ?_
      refine AW.mldE (j := 11) W dX8_drop_100 rfl rfl (by simp only [mlen]; omega) (by (repeat first | apply zs_ne rfl | apply zs_eq (by omega) | apply zs_miss (by omega) | apply zrow_ne rfl); exact rfl) ?_
      refine AW.iconst dX8_drop_101 (by decide) ?_
      refine AW.iaddB dX8_drop_102 (by omega) ?_
      refine AW.mst (j := 11) W dX8_drop_103 rfl rfl (by simp only [mlen]; omega) ?_
      first | (have c := bz_n0.mp c_65; refine AW.mZ zdo_zrow ?_) | (have c := bz_0.mp c_65; rw [zs_zrow_c rfl, zs_zrow_c rfl])
      refine AW.iload dX8_drop_104 rfl ?_
      refine AW.zret dX8_drop_106 rfl ?_ ?_
      · first | exact bz01 _ | exact Or.inl rfl
      first | exact finZ (kO e t F (bz_n0.mp c_65)) rfl (bz_1.mpr (bz_n0.mp c_65)) | exact finZ (kW e t F (bz_0.mp c_65)) rfl c_65
    · refine AW.aload_n dX8_drop_68 rfl ?_
      refine AW.iload_n dX8_drop_69 rfl ?_
      refine AW.iload_n dX8_drop_70 rfl ?_
      refine AW.callV (as := [vi _, vi _]) dX8_drop_71 rfl rfl rfl okX8_dropsOut lkX8_216 W.1 rfl rfl rfl rfl rfl rfl rfl (kX8_dropsOut W (BI_zrow B2 F) (by omega) (by omega) (by show Z 1 s.toNat < 23; omega) (AW.k0 ?_))
      refine AW.goto (tgt := 104) dX8_drop_74 rfl ?_
      first | (have c := bz_n0.mp c_65; refine AW.mZ zdo_zrow ?_) | (have c := bz_0.mp c_65; rw [zs_zrow_c rfl, zs_zrow_c rfl])
      refine AW.iload dX8_drop_104 rfl ?_
      refine AW.zret dX8_drop_106 rfl ?_ ?_
      · first | exact bz01 _ | exact Or.inl rfl
      first | exact finZ (kO e t F (bz_n0.mp c_65)) rfl (bz_1.mpr (bz_n0.mp c_65)) | exact finZ (kW e t F (bz_0.mp c_65)) rfl c_65
  · refine AW.iconst dX8_drop_45 (by decide) ?_
    refine AW.zret dX8_drop_46 rfl ?_ ?_
    · first | exact bz01 _ | exact Or.inl rfl
    have c := bz_n0.mp c_42
    exact kE c
end M7

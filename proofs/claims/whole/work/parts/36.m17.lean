/-! ===== the model: rows ===== -/
section M17
variable {Q : AH → AO → Prop} {h : AH} {Z : ZT}
theorem zs_z3' {t l w : Nat → Int} {j i : Nat} {v : Int} (hj : (j != 43 && j != 44 && j != 45) = true) : zs (z3 Z t l w) j i v = z3 (zs Z j i v) t l w := by
  simp only [Bool.and_eq_true, bne_iff_ne, ne_eq] at hj
  have e : ∀ k, ¬ j = k → Nat.beq j k = false := fun k e => by
    cases q : Nat.beq j k
    · rfl
    · exact absurd (Nat.eq_of_beq_eq_true q) e
  exact zs_z3 (e _ hj.1.1) (e _ hj.1.2) (e _ hj.2)
theorem zcpy_z3 {t l w : Nat → Int} {a b : Nat} : zcpy (z3 Z t l w) a b = z3 (zcpy Z a b) t l w := by
  unfold zcpy zcp0
  rw [show z3 Z t l w 20 a = Z 20 a from rfl, show z3 Z t l w 21 a = Z 21 a from rfl, show z3 Z t l w 23 a = Z 23 a from rfl, zs_z3' rfl, zs_z3' rfl, zs_z3' rfl, zbl_z3 rfl rfl rfl, zbl_z3 rfl rfl rfl, zbl_z3 rfl rfl rfl]
theorem zcpy_o {a b j : Nat} (hj : (j != 20 && offR j) = true) : zcpy Z a b j = Z j := by
  unfold offR at hj
  simp only [Bool.and_eq_true, bne_iff_ne, ne_eq] at hj
  have e : ∀ k, ¬ j = k → Nat.beq j k = false := fun k e => by
    cases q : Nat.beq j k
    · rfl
    · exact absurd (Nat.eq_of_beq_eq_true q) e
  unfold zcpy zcp0
  rw [zbl_o (e _ hj.2.2), zbl_o (e _ hj.2.1.2), zbl_o (e _ hj.2.1.1.1.2), zs_oj (e _ hj.2.1.1.2), zs_oj (e _ hj.2.1.1.1.1), zs_oj (e _ hj.1)]
theorem zcpy_20 {a b : Nat} : zcpy Z a b 20 b = Z 20 a := zs_eq (j := 20) rfl rfl
theorem zcpy_21 {a b : Nat} : zcpy Z a b 21 b = Z 21 a := zs_eq (j := 21) rfl rfl
theorem zmt_21 {r s v : Int} : zmt Z r s v 21 r.toNat = v := by
  unfold zmt; rw [zmtD_21, zmtU_21]; omega
/-- bounds of the rows -/
def BR (Z : ZT) : Prop := (0 ≤ Z 19 0 ∧ Z 19 0 ≤ 20) ∧ ∀ r : Nat, r < 20 → 0 ≤ Z 20 r ∧ Z 20 r < 4 ∧ 0 ≤ Z 21 r ∧ Z 21 r ≤ Z 1 (Z 20 r).toNat
/-- all steps can be gone -/
def BT (Z : ZT) : Prop := ∀ s : Int, 0 ≤ s → s < 4 → stS Z s
theorem stS_c {Z' : ZT} {s : Int} (e1 : Z' 1 = Z 1) (e7 : Z' 7 = Z 7) (e9 : Z' 9 = Z 9) (e10 : Z' 10 = Z 10) (B : stS Z s) : stS Z' s := by
  unfold stS; rw [e1]; exact fun a h1 h2 => stp_c e7 e9 e10 (B a h1 h2)
def zsee (Z : ZT) (r v : Int) : ZT := zmt (zcpy Z r.toNat 20) 20 (Z 20 r.toNat) v
theorem zsee_o {r v : Int} {j : Nat} (hj : (j != 20 && offR j) = true) : zsee Z r v j = Z j := by
  unfold zsee
  rw [zmt_o (by rw [Bool.and_eq_true] at hj; exact hj.2), zcpy_o hj]
theorem zsee_20 {r v : Int} : zsee Z r v 20 20 = Z 20 r.toNat := by
  unfold zsee; rw [zmt_o rfl]; exact zcpy_20
theorem zsee_21 {r v : Int} : zsee Z r v 21 20 = v := zmt_21 (r := 20)
theorem kX8_sees {r v : Int} {t l w : Nat → Int} (W : WfM h) (B : BI Z) (R : BR Z) (T : BT Z) (hr : 0 ≤ r ∧ r < 20) (hv : 0 ≤ v ∧ v ≤ Z 1 (Z 20 r.toNat).toNat) (k : ∀ t l w, Q (mput h (z3 (zsee Z r v) t l w)) (.inl none)) :
    AC mX8_sees fX8_sees loX8_sees 0 0 (mput h (z3 Z t l w)) [vr mO, vi r, vi v] Q := by
  have rb := R.2 r.toNat (by omega)
  have sb := B.1.2 (Z 20 r.toNat).toNat (by omega)
  have o : ∀ j, (j != 20 && offR j) = true → zcpy Z r.toNat 20 j = Z j := fun j hj => zcpy_o hj
  refine AC.mk (by decide) (Nat.le_of_ble_eq_true rfl) ?_
  refine AW.aload_n dX8_sees_0 rfl ?_
  refine AW.iload_n dX8_sees_1 rfl ?_
  refine AW.bipush dX8_sees_2 bp_20 (by decide) ?_
  refine AW.callV (as := [vi _, vi _]) dX8_sees_4 rfl rfl rfl okX8_copies lkX8_284 W.1 rfl rfl rfl rfl rfl rfl rfl (kX8_copies W (by omega) (by omega) (by omega) (AW.k0 ?_))
  refine AW.mZ (zcpy_z3 (a := r.toNat) (b := 20)) ?_
  refine AW.aload_n dX8_sees_7 rfl ?_
  refine AW.bipush dX8_sees_8 bp_20 (by decide) ?_
  refine AW.iload_n dX8_sees_10 rfl ?_
  refine AW.callV (as := [vi _, vi _]) dX8_sees_11 rfl rfl rfl okX8_movesTo lkX8_287 W.1 rfl rfl rfl rfl rfl rfl rfl (kX8_movesTo (Z := zcpy Z r.toNat 20) W (BB_c (o 8 rfl) (o 9 rfl) B.2.2.1) zcpy_20 (stS_c (o 1 rfl) (o 7 rfl) (o 9 rfl) (o 10 rfl) (T _ rb.1 rb.2.1)) (by omega) (by omega) (by rw [o 1 rfl]; exact hv) (by rw [o 1 rfl]; omega) (by rw [o 1 rfl, show zcpy Z r.toNat 20 21 (20 : Int).toNat = Z 21 r.toNat from zcpy_21]; omega) (fun t l w => (AW.k0 ?_)))
  refine AW.vret dX8_sees_14 rfl ?_
  exact k t l w
def zcnt (Z : ZT) (r : Int) : ZT := zs (zs Z 27 0 (wr (Z 27 0 + 1))) 26 r.toNat (wr (Z 27 0 + 1))
theorem kX8_counts {r : Int} (W : WfM h) (hr : 0 ≤ r ∧ r < 22) (k : Q (mput h (zcnt Z r)) (.inl none)) : AC mX8_counts fX8_counts loX8_counts 0 0 (mput h Z) [vr mO, vi r] Q := by
  refine AC.mk (by decide) (Nat.le_of_ble_eq_true rfl) ?_
  refine AW.aload_n dX8_counts_0 rfl ?_
  refine AW.dup dX8_counts_1 rfl ?_
  refine AW.mSE 27 W dX8_counts_2 lkX8_290 rfl rfl rfl ?_
  refine AW.iconst dX8_counts_5 (by decide) ?_
  refine AW.iadd dX8_counts_6 ?_
  refine AW.mSp 27 W dX8_counts_7 lkX8_290 rfl rfl rfl ?_
  refine AW.aload_n dX8_counts_10 rfl ?_
  refine AW.mA 26 W dX8_counts_11 lkX8_80 rfl rfl ?_
  refine AW.iload_n dX8_counts_14 rfl ?_
  refine AW.aload_n dX8_counts_15 rfl ?_
  refine AW.mSE 27 W dX8_counts_16 lkX8_290 rfl rfl (by (repeat first | apply zs_ne rfl | apply zs_eq (by omega) | apply zs_miss (by omega)); exact rfl) ?_
  refine AW.mst (j := 26) W dX8_counts_19 rfl rfl (by simp only [mlen]; omega) ?_
  refine AW.vret dX8_counts_20 rfl ?_
  exact k
theorem kX8_isRow {r : Int} (W : WfM h) (R : BR Z) (k : Q (mput h Z) (.inl (some (vi (bz (0 ≤ r ∧ r ≤ Z 19 0 - 1)))))) : AC mX8_isRow fX8_isRow loX8_isRow 0 0 (mput h Z) [vr mO, vi r] Q := by
  have R0 := R.1
  refine AC.mk (by decide) (Nat.le_of_ble_eq_true rfl) ?_
  refine AW.iload_n dX8_isRow_0 rfl ?_
  refine AW.iconst dX8_isRow_1 (by decide) ?_
  refine AW.aload_n dX8_isRow_2 rfl ?_
  refine AW.mSE 19 W dX8_isRow_3 lkX8_293 rfl rfl rfl ?_
  refine AW.iconst dX8_isRow_6 (by decide) ?_
  refine AW.isubB dX8_isRow_7 (by omega) ?_
  refine AW.callS (as := [vi _, vi _, vi _]) dX8_isRow_8 rfl rfl rfl okX8_lies lkX8_144 rfl rfl rfl rfl rfl rfl (kX8_lies  (AW.k1 ?_))
  refine AW.zret dX8_isRow_11 rfl ?_ ?_
  · exact bz01 _
  exact k
def zhld (Z : ZT) (g n r : Int) : Prop := (¬ zinF Z g n = -1 ∧ ¬ Z 17 (48 * g + zinF Z g n).toNat = 0) ∧ (0 ≤ r ∧ r ≤ Z 19 0 - 1)
abbrev zhlc (Z : ZT) (g n r : Int) : Int := bz ((¬ zinF Z g n = -1 ∧ ¬ Z 17 (48 * g + zinF Z g n).toNat = 0) ∧ (0 ≤ r ∧ r ≤ Z 19 0 - 1))
def zcRea (Z : ZT) (g r n : Int) : Int := cd2 (zhlc Z g n r = 0) (¬ Z 20 r.toNat = Z 14 g.toNat)
theorem BR_zs {j i : Nat} {v : Int} (hj : (j != 1 && j != 19 && j != 20 && j != 21) = true) (R : BR Z) : BR (zs Z j i v) := by
  simp only [Bool.and_eq_true, bne_iff_ne, ne_eq] at hj
  have e : ∀ k, ¬ j = k → Nat.beq k j = false := fun k e => by
    cases q : Nat.beq k j
    · rfl
    · exact absurd (Nat.eq_of_beq_eq_true q).symm e
  unfold BR
  rw [zs_oj (e 1 hj.1.1.1), zs_oj (e 19 hj.1.1.2), zs_oj (e 20 hj.1.2), zs_oj (e 21 hj.2)]
  exact R
theorem BT_c {Z' : ZT} (e1 : Z' 1 = Z 1) (e7 : Z' 7 = Z 7) (e9 : Z' 9 = Z 9) (e10 : Z' 10 = Z 10) (B : BT Z) : BT Z' := fun s h1 h2 => stS_c e1 e7 e9 e10 (B s h1 h2)
set_option maxHeartbeats 1000000 in
theorem kX8_read {g r n : Int} (W : WfM h) (B : BI Z) (R : BR Z) (T : BT Z) (kE : 0 < zcRea Z g r n → Q (mput h (zs Z 48 0 (zcRea Z g r n))) (.inl (some (vi 0))))
    (kO : zcRea Z g r n = 0 → ∀ t l w, Q (mput h (z3 (zsee (zs Z 48 0 0) r (Z 15 g.toNat)) t l w)) (.inl (some (vi (zsee (zs Z 48 0 0) r (Z 15 g.toNat) 22 (960 + zinF Z g n).toNat))))) : AC mX8_read fX8_read loX8_read 0 0 (mput h Z) [vr mO, vi g, vi r, vi n] Q := by
  have hR := zinF_rng B (g := g) (n := n)
  have R0 := R.1
  refine AC.mk (by decide) (Nat.le_of_ble_eq_true rfl) ?_
  refine AW.aload_n dX8_read_0 rfl ?_
  refine AW.iload_n dX8_read_1 rfl ?_
  refine AW.iload_n dX8_read_2 rfl ?_
  refine AW.callV (as := [vi _, vi _]) dX8_read_3 rfl rfl rfl okX8_inForm lkX8_239 W.1 rfl rfl rfl rfl rfl rfl rfl (kX8_inForm W (by assumption) (AW.k1 ?_))
  refine AW.istore dX8_read_6 rfl ?_
  refine AW.aload_n dX8_read_8 rfl ?_
  refine AW.iload_n dX8_read_9 rfl ?_
  refine AW.iload dX8_read_10 rfl ?_
  refine AW.callV (as := [vi _, vi _]) dX8_read_12 rfl rfl rfl okX8_isHeld lkX8_248 W.1 rfl rfl rfl rfl rfl rfl rfl (kX8_isHeld W (fun c => (hR.resolve_left c).1 |> fun z => ⟨z.1, z.2.1⟩) (by omega) (AW.k1 ?_))
  refine' AW.if_eqJ 31 (tgt := 30) dX8_read_15 rfl _ _ _
  rotate_left 2
  · intro c_15 k_15
    refine AW.iconst dX8_read_30 (by decide) ?_
    exact k_15
  · intro c_15 k_15
    refine AW.aload_n dX8_read_18 rfl ?_
    refine AW.iload_n dX8_read_19 rfl ?_
    refine AW.callV (as := [vi _]) dX8_read_20 rfl rfl rfl okX8_isRow lkX8_296 W.1 rfl rfl rfl rfl rfl rfl rfl (kX8_isRow W (by assumption) (AW.k1 ?_))
    refine' AW.if_eqJ 31 (tgt := 30) dX8_read_23 rfl _ _ _
    rotate_left 2
    · intro c_23 k_23
      refine AW.iconst dX8_read_30 (by decide) ?_
      exact k_23
    · intro c_23 k_23
      refine AW.iconst dX8_read_26 (by decide) ?_
      refine AW.goto (tgt := 31) dX8_read_27 rfl ?_
      exact k_23
    exact k_15
  refine AW.top (y := zhlc Z g n r) (by unfold zhlc; simp only [bz_0]; unfold bz; (repeat' split) <;> simp_all) ?_
  refine AW.istore dX8_read_31 rfl ?_
  refine AW.aload_n dX8_read_33 rfl ?_
  refine AW.iload dX8_read_34 rfl ?_
  refine' AW.if_neJ 63 (tgt := 43) dX8_read_36 rfl _ _ _
  rotate_left 2
  · intro c_36 k_36
    have c := bz_n0.mp c_36
    have hR2 := hR.resolve_left c.1.1
    refine AW.aload_n dX8_read_43 rfl ?_
    refine AW.mA 20 W dX8_read_44 lkX8_62 rfl rfl ?_
    refine AW.iload_n dX8_read_47 rfl ?_
    refine AW.mldE (j := 20) W dX8_read_48 rfl rfl (by simp only [mlen]; omega) rfl ?_
    refine AW.aload_n dX8_read_49 rfl ?_
    refine AW.mA 14 W dX8_read_50 lkX8_47 rfl rfl ?_
    refine AW.iload_n dX8_read_53 rfl ?_
    refine AW.mldE (j := 14) W dX8_read_54 rfl rfl (by simp only [mlen]; omega) rfl ?_
    refine' AW.icmp_eqJ 63 (tgt := 62) dX8_read_55 rfl _ _ _
    rotate_left 2
    · intro c_55 k_55
      refine AW.iconst dX8_read_62 (by decide) ?_
      exact k_55
    · intro c_55 k_55
      refine AW.iconst dX8_read_58 (by decide) ?_
      refine AW.goto (tgt := 63) dX8_read_59 rfl ?_
      exact k_55
    exact k_36
  · intro c_36 k_36
    refine AW.iconst dX8_read_39 (by decide) ?_
    refine AW.goto (tgt := 63) dX8_read_40 rfl ?_
    exact k_36
  refine AW.top (y := zcRea Z g r n) (by clear hR; unfold zcRea cd2; (repeat' split) <;> simp_all) ?_
  refine AW.callV (as := [vi _]) dX8_read_63 rfl rfl rfl okX8_fails lkX8_162 W.1 rfl rfl rfl rfl rfl rfl rfl (kX8_fails W (AW.k1 ?_))
  refine AW.if_eq (tgt := 71) dX8_read_66 rfl (fun c_66 => ?_) (fun c_66 => ?_)
  · have c := bz_0.mp c_66
    have e : zcRea Z g r n = 0 := by unfold zcRea cd2 at *; (repeat' split at c) <;> omega
    obtain ⟨c1, c2⟩ := cd2_0.mp c
    have c1 := bz_n0.mp c1
    rw [Classical.not_not] at c2
    have hR := hR.resolve_left c1.1.1
    rw [e]
    refine AW.mZ (z3_self (Z := zs Z 48 0 0)).symm ?_
    refine AW.aload_n dX8_read_71 rfl ?_
    refine AW.iload_n dX8_read_72 rfl ?_
    refine AW.aload_n dX8_read_73 rfl ?_
    refine AW.mA 15 W dX8_read_74 lkX8_50 rfl rfl ?_
    refine AW.iload_n dX8_read_77 rfl ?_
    refine AW.mldE (j := 15) W dX8_read_78 rfl rfl (by simp only [mlen]; omega) (by rfl) ?_
    refine AW.callV (as := [vi _, vi _]) dX8_read_79 rfl rfl rfl okX8_sees lkX8_299 W.1 rfl rfl rfl rfl rfl rfl rfl (kX8_sees (Z := zs Z 48 0 0) (t := zs Z 48 0 0 43) (l := zs Z 48 0 0 44) (w := zs Z 48 0 0 45) W (BI_zs rfl B) (BR_zs rfl R) (BT_c rfl rfl rfl rfl T) (by omega) (show 0 ≤ Z 15 g.toNat ∧ Z 15 g.toNat ≤ Z 1 (Z 20 r.toNat).toNat by rw [c2]; omega) (fun t l w => (AW.k0 ?_)))
    refine AW.aload_n dX8_read_82 rfl ?_
    refine AW.mA 22 W dX8_read_83 lkX8_68 rfl rfl ?_
    refine AW.sipush dX8_read_86 sp_960 (by decide) ?_
    refine AW.iload dX8_read_89 rfl ?_
    refine AW.iaddB dX8_read_91 (by omega) ?_
    refine AW.mldE (j := 22) W dX8_read_92 rfl rfl (by simp only [mlen]; omega) (by rfl) ?_
    refine AW.iret dX8_read_93 rfl ?_
    exact kO e t l w
  · refine AW.iconst dX8_read_69 (by decide) ?_
    refine AW.iret dX8_read_70 rfl ?_
    have c := bz_n0.mp c_66
    exact kE c
end M17

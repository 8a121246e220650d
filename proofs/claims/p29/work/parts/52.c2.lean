/-! ===== the class: schemas and steps, what only reads ===== -/
section C2
variable {Q : AH → AO → Prop} {h : AH} {s : Nat}
/-- bounds of a schema's numbers -/
def SB (h : AH) (s : Nat) : Prop := (0 ≤ hI h (4, s, 0) 0 ∧ hI h (4, s, 0) 0 ≤ 23) ∧ (0 ≤ hI h (4, s, 0) 1 ∧ hI h (4, s, 0) 1 ≤ 46) ∧ (0 ≤ hI h (4, s, 0) 2 ∧ hI h (4, s, 0) 2 ≤ 46)
theorem kX4_isVersion {v : Int} (W : SchW h s) (B : SB h s) (k : Q h (.inl (some (vi (bz (0 ≤ v ∧ v ≤ hI h (4, s, 0) 0)))))) : AC mX4_isVersion fX4_isVersion loX4_isVersion 0 0 h [vr (4, s, 0), vi v] Q := by
  have B0 := B.1
  refine AC.mk (by decide) (Nat.le_of_ble_eq_true rfl) ?_
  refine AW.iload_n dX4_isVersion_0 rfl ?_
  refine' AW.if_ltJ 23 (tgt := 22) dX4_isVersion_1 rfl _ _ _
  rotate_left 2
  · intro c_1 k_1
    refine AW.iconst dX4_isVersion_22 (by decide) ?_
    exact k_1
  · intro c_1 k_1
    refine AW.iload_n dX4_isVersion_4 rfl ?_
    refine AW.aload_n dX4_isVersion_5 rfl ?_
    refine AW.getIE (j := 0) W.o dX4_isVersion_6 lkX4_48 rfl rfl inC5 rfl rfl ?_
    refine' AW.icmp_gtJ 23 (tgt := 22) dX4_isVersion_9 rfl _ _ _
    rotate_left 2
    · intro c_9 k_9
      refine AW.iconst dX4_isVersion_22 (by decide) ?_
      exact k_9
    · intro c_9 k_9
      refine AW.iload_n dX4_isVersion_12 rfl ?_
      refine AW.bipush dX4_isVersion_13 bp_24 (by decide) ?_
      refine' AW.icmp_geJ 23 (tgt := 22) dX4_isVersion_15 rfl _ _ _
      rotate_left 2
      · intro c_15 k_15
        refine AW.iconst dX4_isVersion_22 (by decide) ?_
        exact k_15
      · intro c_15 k_15
        refine AW.iconst dX4_isVersion_18 (by decide) ?_
        refine AW.goto (tgt := 23) dX4_isVersion_19 rfl ?_
        exact k_15
      exact k_9
    exact k_1
  refine AW.zret dX4_isVersion_23 rfl ?_ ?_
  · (repeat' split) <;> simp
  refine fin1 k rfl ?_
  unfold bz
  (repeat' split) <;> omega
theorem kX4_isFull (W : SchW h s) (B : SB h s) (k : Q h (.inl (some (vi (bz (hI h (4, s, 0) 0 = 23)))))) : AC mX4_isFull fX4_isFull loX4_isFull 0 0 h [vr (4, s, 0)] Q := by
  have B0 := B.1
  refine AC.mk (by decide) (Nat.le_of_ble_eq_true rfl) ?_
  refine AW.aload_n dX4_isFull_0 rfl ?_
  refine AW.getIE (j := 0) W.o dX4_isFull_1 lkX4_48 rfl rfl inC5 rfl rfl ?_
  refine AW.bipush dX4_isFull_4 bp_23 (by decide) ?_
  refine' AW.icmp_ltJ 14 (tgt := 13) dX4_isFull_6 rfl _ _ _
  rotate_left 2
  · intro c_6 k_6
    refine AW.iconst dX4_isFull_13 (by decide) ?_
    exact k_6
  · intro c_6 k_6
    refine AW.iconst dX4_isFull_9 (by decide) ?_
    refine AW.goto (tgt := 14) dX4_isFull_10 rfl ?_
    exact k_6
  refine AW.zret dX4_isFull_14 rfl ?_ ?_
  · (repeat' split) <;> simp
  refine fin1 k rfl ?_
  unfold bz
  (repeat' split) <;> omega
theorem kX4_isField {f : Int} (W : SchW h s) (B : SB h s) (k : Q h (.inl (some (vi (bz (0 ≤ f ∧ f < hI h (4, s, 0) 2)))))) : AC mX4_isField fX4_isField loX4_isField 0 0 h [vr (4, s, 0), vi f] Q := by
  have B0 := B.2.2
  refine AC.mk (by decide) (Nat.le_of_ble_eq_true rfl) ?_
  refine AW.iload_n dX4_isField_0 rfl ?_
  refine' AW.if_ltJ 23 (tgt := 22) dX4_isField_1 rfl _ _ _
  rotate_left 2
  · intro c_1 k_1
    refine AW.iconst dX4_isField_22 (by decide) ?_
    exact k_1
  · intro c_1 k_1
    refine AW.iload_n dX4_isField_4 rfl ?_
    refine AW.aload_n dX4_isField_5 rfl ?_
    refine AW.getIE (j := 2) W.o dX4_isField_6 lkX4_52 rfl rfl inC5 rfl rfl ?_
    refine' AW.icmp_geJ 23 (tgt := 22) dX4_isField_9 rfl _ _ _
    rotate_left 2
    · intro c_9 k_9
      refine AW.iconst dX4_isField_22 (by decide) ?_
      exact k_9
    · intro c_9 k_9
      refine AW.iload_n dX4_isField_12 rfl ?_
      refine AW.bipush dX4_isField_13 bp_46 (by decide) ?_
      refine' AW.icmp_geJ 23 (tgt := 22) dX4_isField_15 rfl _ _ _
      rotate_left 2
      · intro c_15 k_15
        refine AW.iconst dX4_isField_22 (by decide) ?_
        exact k_15
      · intro c_15 k_15
        refine AW.iconst dX4_isField_18 (by decide) ?_
        refine AW.goto (tgt := 23) dX4_isField_19 rfl ?_
        exact k_15
      exact k_9
    exact k_1
  refine AW.zret dX4_isField_23 rfl ?_ ?_
  · (repeat' split) <;> simp
  refine fin1 k rfl ?_
  unfold bz
  (repeat' split) <;> omega
def cfn (h : AH) (s : Nat) (v n : Int) : Int := if (0 ≤ v ∧ v ≤ hI h (4, s, 0) 0) ∧ (0 ≤ n ∧ n ≤ 25) then hI h (4, s, 100 + v.toNat) n.toNat else -1
theorem kX4_fieldNamed {v n : Int} (W : SchW h s) (B : SB h s) (k : Q h (.inl (some (vi (cfn h s v n))))) : AC mX4_fieldNamed fX4_fieldNamed loX4_fieldNamed 0 0 h [vr (4, s, 0), vi v, vi n] Q := by
  have B0 := B.1
  refine AC.mk (by decide) (Nat.le_of_ble_eq_true rfl) ?_
  refine AW.aload_n dX4_fieldNamed_0 rfl ?_
  refine AW.iload_n dX4_fieldNamed_1 rfl ?_
  refine AW.callV (as := [vi _]) dX4_fieldNamed_2 rfl rfl rfl okX4_isVersion lkX4_55 W.o rfl rfl rfl rfl rfl rfl rfl (kX4_isVersion W B (AW.k1 ?_))
  refine' AW.if_eqJ 27 (tgt := 26) dX4_fieldNamed_5 rfl _ _ _
  rotate_left 2
  · intro c_5 k_5
    refine AW.iconst dX4_fieldNamed_26 (by decide) ?_
    exact k_5
  · intro c_5 k_5
    have c := bz_n0.mp c_5
    refine AW.iload_n dX4_fieldNamed_8 rfl ?_
    refine AW.callSN (as := [vi _]) dX4_fieldNamed_9 rfl rfl rfl okX7_isName lkX4_59 rfl rfl rfl rfl rfl (kX7_isName  (AW.k1 ?_))
    refine' AW.if_eqJ 27 (tgt := 26) dX4_fieldNamed_12 rfl _ _ _
    rotate_left 2
    · intro c_12 k_12
      refine AW.iconst dX4_fieldNamed_26 (by decide) ?_
      exact k_12
    · intro c_12 k_12
      have c2 := bz_n0.mp c_12
      refine AW.aload_n dX4_fieldNamed_15 rfl ?_
      refine AW.getRE (j := 5) W.o dX4_fieldNamed_16 lkX4_20 rfl rfl inC5 rfl W.r5 ?_
      refine AW.iload_n dX4_fieldNamed_19 rfl ?_
      refine AW.aldR (t := 9) dX4_fieldNamed_20 W.t5 (by decide) rfl (by omega) (by omega) (W.v (v := v.toNat) (by omega)) ?_
      refine AW.iload_n dX4_fieldNamed_21 rfl ?_
      refine AW.aldIE dX4_fieldNamed_22 (W.tv (v := v.toNat) (by omega)) (by omega) (by omega) rfl ?_
      refine AW.goto (tgt := 27) dX4_fieldNamed_23 rfl ?_
      exact k_12
    exact k_5
  refine AW.iret dX4_fieldNamed_27 rfl ?_
  refine fin1 k rfl ?_
  unfold cfn
  simp only [bz_0]
  (repeat' split) <;> first | rfl | (simp_all; done) | omega
def ckd (h : AH) (s : Nat) (f : Int) : Int := if 0 ≤ f ∧ f < hI h (4, s, 0) 2 then hI h (4, s, 1) f.toNat else 0
def cdf (h : AH) (s : Nat) (f : Int) : Int := if 0 ≤ f ∧ f < hI h (4, s, 0) 2 then hI h (4, s, 2) f.toNat else -1
theorem kX4_kindOf {f : Int} (W : SchW h s) (B : SB h s) (k : Q h (.inl (some (vi (ckd h s f))))) : AC mX4_kindOf fX4_kindOf loX4_kindOf 0 0 h [vr (4, s, 0), vi f] Q := by
  have B0 := B.2.2
  refine AC.mk (by decide) (Nat.le_of_ble_eq_true rfl) ?_
  refine AW.aload_n dX4_kindOf_0 rfl ?_
  refine AW.iload_n dX4_kindOf_1 rfl ?_
  refine AW.callV (as := [vi _]) dX4_kindOf_2 rfl rfl rfl okX4_isField lkX4_66 W.o rfl rfl rfl rfl rfl rfl rfl (kX4_isField W B (AW.k1 ?_))
  refine' AW.if_eqJ 18 (tgt := 17) dX4_kindOf_5 rfl _ _ _
  rotate_left 2
  · intro c_5 k_5
    refine AW.iconst dX4_kindOf_17 (by decide) ?_
    exact k_5
  · intro c_5 k_5
    have c := bz_n0.mp c_5
    refine AW.aload_n dX4_kindOf_8 rfl ?_
    refine AW.getRE (j := 3) W.o dX4_kindOf_9 lkX4_9 rfl rfl inC5 rfl W.r3 ?_
    refine AW.iload_n dX4_kindOf_12 rfl ?_
    refine AW.aldIE dX4_kindOf_13 W.t3 (by omega) (by omega) rfl ?_
    refine AW.goto (tgt := 18) dX4_kindOf_14 rfl ?_
    exact k_5
  refine AW.iret dX4_kindOf_18 rfl ?_
  refine fin1 k rfl ?_
  unfold ckd
  simp only [bz_0]
  (repeat' split) <;> first | rfl | (simp_all; done) | omega
theorem kX4_defaultOf {f : Int} (W : SchW h s) (B : SB h s) (k : Q h (.inl (some (vi (cdf h s f))))) : AC mX4_defaultOf fX4_defaultOf loX4_defaultOf 0 0 h [vr (4, s, 0), vi f] Q := by
  have B0 := B.2.2
  refine AC.mk (by decide) (Nat.le_of_ble_eq_true rfl) ?_
  refine AW.aload_n dX4_defaultOf_0 rfl ?_
  refine AW.iload_n dX4_defaultOf_1 rfl ?_
  refine AW.callV (as := [vi _]) dX4_defaultOf_2 rfl rfl rfl okX4_isField lkX4_66 W.o rfl rfl rfl rfl rfl rfl rfl (kX4_isField W B (AW.k1 ?_))
  refine' AW.if_eqJ 18 (tgt := 17) dX4_defaultOf_5 rfl _ _ _
  rotate_left 2
  · intro c_5 k_5
    refine AW.iconst dX4_defaultOf_17 (by decide) ?_
    exact k_5
  · intro c_5 k_5
    have c := bz_n0.mp c_5
    refine AW.aload_n dX4_defaultOf_8 rfl ?_
    refine AW.getRE (j := 4) W.o dX4_defaultOf_9 lkX4_15 rfl rfl inC5 rfl W.r4 ?_
    refine AW.iload_n dX4_defaultOf_12 rfl ?_
    refine AW.aldIE dX4_defaultOf_13 W.t4 (by omega) (by omega) rfl ?_
    refine AW.goto (tgt := 18) dX4_defaultOf_14 rfl ?_
    exact k_5
  refine AW.iret dX4_defaultOf_18 rfl ?_
  refine fin1 k rfl ?_
  unfold cdf
  simp only [bz_0]
  (repeat' split) <;> first | rfl | (simp_all; done) | omega
def cnd (h : AH) (s : Nat) (v f : Int) : Int := bz ((0 ≤ v ∧ v ≤ hI h (4, s, 0) 0) ∧ (0 ≤ f ∧ f < hI h (4, s, 0) 2) ∧ bt (hL h (4, s, 4) v.toNat) f)
theorem kX4_isNeeded {v f : Int} (W : SchW h s) (B : SB h s) (k : Q h (.inl (some (vi (cnd h s v f))))) : AC mX4_isNeeded fX4_isNeeded loX4_isNeeded 0 0 h [vr (4, s, 0), vi v, vi f] Q := by
  have B0 := B.1
  have B2 := B.2.2
  refine AC.mk (by decide) (Nat.le_of_ble_eq_true rfl) ?_
  refine AW.aload_n dX4_isNeeded_0 rfl ?_
  refine AW.iload_n dX4_isNeeded_1 rfl ?_
  refine AW.callV (as := [vi _]) dX4_isNeeded_2 rfl rfl rfl okX4_isVersion lkX4_55 W.o rfl rfl rfl rfl rfl rfl rfl (kX4_isVersion W B (AW.k1 ?_))
  refine' AW.if_eqJ 34 (tgt := 33) dX4_isNeeded_5 rfl _ _ _
  rotate_left 2
  · intro c_5 k_5
    refine AW.iconst dX4_isNeeded_33 (by decide) ?_
    exact k_5
  · intro c_5 k_5
    have c := bz_n0.mp c_5
    refine AW.aload_n dX4_isNeeded_8 rfl ?_
    refine AW.iload_n dX4_isNeeded_9 rfl ?_
    refine AW.callV (as := [vi _]) dX4_isNeeded_10 rfl rfl rfl okX4_isField lkX4_66 W.o rfl rfl rfl rfl rfl rfl rfl (kX4_isField W B (AW.k1 ?_))
    refine' AW.if_eqJ 34 (tgt := 33) dX4_isNeeded_13 rfl _ _ _
    rotate_left 2
    · intro c_13 k_13
      refine AW.iconst dX4_isNeeded_33 (by decide) ?_
      exact k_13
    · intro c_13 k_13
      have c2 := bz_n0.mp c_13
      refine AW.aload_n dX4_isNeeded_16 rfl ?_
      refine AW.getRE (j := 6) W.o dX4_isNeeded_17 lkX4_23 rfl rfl inC5 rfl W.r6 ?_
      refine AW.iload_n dX4_isNeeded_20 rfl ?_
      refine AW.aldLE dX4_isNeeded_21 W.t6 (by omega) (by omega) rfl ?_
      refine AW.iload_n dX4_isNeeded_22 rfl ?_
      refine AW.callSN (as := [vl _, vi _]) dX4_isNeeded_23 rfl rfl rfl okX7_contains lkX4_69 rfl rfl rfl rfl rfl (kX7_contains (by omega) (AW.k1 ?_))
      refine' AW.if_eqJ 34 (tgt := 33) dX4_isNeeded_26 rfl _ _ _
      rotate_left 2
      · intro c_26 k_26
        refine AW.iconst dX4_isNeeded_33 (by decide) ?_
        exact k_26
      · intro c_26 k_26
        refine AW.iconst dX4_isNeeded_29 (by decide) ?_
        refine AW.goto (tgt := 34) dX4_isNeeded_30 rfl ?_
        exact k_26
      exact k_13
    exact k_5
  refine AW.zret dX4_isNeeded_34 rfl ?_ ?_
  · (repeat' split) <;> simp
  refine fin1 k rfl ?_
  unfold cnd
  simp only [bz_0]
  unfold bz
  (repeat' split) <;> first | rfl | (simp_all; done) | omega
theorem kX4_stepTo {v : Int} (W : SchW h s) (B : SB h s) (k : Q h (.inl (some (vq (if 0 ≤ v ∧ v ≤ hI h (4, s, 0) 0 then hR h (4, s, 5) v.toNat else none))))) : AC mX4_stepTo fX4_stepTo loX4_stepTo 0 0 h [vr (4, s, 0), vi v] Q := by
  have B0 := B.1
  refine AC.mk (by decide) (Nat.le_of_ble_eq_true rfl) ?_
  refine AW.aload_n dX4_stepTo_0 rfl ?_
  refine AW.iload_n dX4_stepTo_1 rfl ?_
  refine AW.callV (as := [vi _]) dX4_stepTo_2 rfl rfl rfl okX4_isVersion lkX4_55 W.o rfl rfl rfl rfl rfl rfl rfl (kX4_isVersion W B (AW.k1 ?_))
  refine AW.if_eq (tgt := 17) dX4_stepTo_5 rfl (fun c_5 => ?_) (fun c_5 => ?_)
  · refine AW.anull dX4_stepTo_17 ?_
    refine AW.aret dX4_stepTo_18 rfl ?_
    first | (rw [if_pos c] at k; exact k) | (rw [if_neg (bz_0.mp c_5)] at k; exact k)
  · have c := bz_n0.mp c_5
    refine AW.aload_n dX4_stepTo_8 rfl ?_
    refine AW.getRE (j := 7) W.o dX4_stepTo_9 lkX4_29 rfl rfl inC5 rfl W.r7 ?_
    refine AW.iload_n dX4_stepTo_12 rfl ?_
    refine AW.aldR (t := 8) dX4_stepTo_13 W.t7 (by decide) rfl (by omega) (by omega) rfl ?_
    refine AW.goto (tgt := 18) dX4_stepTo_14 rfl ?_
    refine AW.aret dX4_stepTo_18 rfl ?_
    first | (rw [if_pos c] at k; exact k) | (rw [if_neg (bz_0.mp c_5)] at k; exact k)
def cto (h : AH) (s : Nat) (n f g : Int) : Int := bz (¬ cfn h s (hI h (4, s, 0) 0) n = -1 ∧ ¬ cfn h s (hI h (4, s, 0) 0) n = f ∧ ¬ cfn h s (hI h (4, s, 0) 0) n = g)
theorem kX4_isTakenByOther {n f g : Int} (W : SchW h s) (B : SB h s) (k : Q h (.inl (some (vi (cto h s n f g))))) : AC mX4_isTakenByOther fX4_isTakenByOther loX4_isTakenByOther 0 0 h [vr (4, s, 0), vi n, vi f, vi g] Q := by
  have B0 := B.1
  refine AC.mk (by decide) (Nat.le_of_ble_eq_true rfl) ?_
  refine AW.aload_n dX4_isTakenByOther_0 rfl ?_
  refine AW.aload_n dX4_isTakenByOther_1 rfl ?_
  refine AW.getIE (j := 0) W.o dX4_isTakenByOther_2 lkX4_48 rfl rfl inC5 rfl rfl ?_
  refine AW.iload_n dX4_isTakenByOther_5 rfl ?_
  refine AW.callV (as := [vi _, vi _]) dX4_isTakenByOther_6 rfl rfl rfl okX4_fieldNamed lkX4_62 W.o rfl rfl rfl rfl rfl rfl rfl (kX4_fieldNamed W B (AW.k1 ?_))
  refine AW.istore dX4_isTakenByOther_9 rfl ?_
  refine AW.iload dX4_isTakenByOther_11 rfl ?_
  refine AW.iconst dX4_isTakenByOther_13 (by decide) ?_
  refine' AW.icmp_eqJ 34 (tgt := 33) dX4_isTakenByOther_14 rfl _ _ _
  rotate_left 2
  · intro c_14 k_14
    refine AW.iconst dX4_isTakenByOther_33 (by decide) ?_
    exact k_14
  · intro c_14 k_14
    refine AW.iload dX4_isTakenByOther_17 rfl ?_
    refine AW.iload_n dX4_isTakenByOther_19 rfl ?_
    refine' AW.icmp_eqJ 34 (tgt := 33) dX4_isTakenByOther_20 rfl _ _ _
    rotate_left 2
    · intro c_20 k_20
      refine AW.iconst dX4_isTakenByOther_33 (by decide) ?_
      exact k_20
    · intro c_20 k_20
      refine AW.iload dX4_isTakenByOther_23 rfl ?_
      refine AW.iload_n dX4_isTakenByOther_25 rfl ?_
      refine' AW.icmp_eqJ 34 (tgt := 33) dX4_isTakenByOther_26 rfl _ _ _
      rotate_left 2
      · intro c_26 k_26
        refine AW.iconst dX4_isTakenByOther_33 (by decide) ?_
        exact k_26
      · intro c_26 k_26
        refine AW.iconst dX4_isTakenByOther_29 (by decide) ?_
        refine AW.goto (tgt := 34) dX4_isTakenByOther_30 rfl ?_
        exact k_26
      exact k_20
    exact k_14
  refine AW.zret dX4_isTakenByOther_34 rfl ?_ ?_
  · (repeat' split) <;> simp
  refine fin1 k rfl ?_
  unfold cto bz
  (repeat' split) <;> first | rfl | (simp_all; done)
def cbs (g : Nat → Int) : Nat → Int64
  | 0 => 0
  | k + 1 => cbs g k ||| bitI (g k)
theorem bt_cbs {g : Nat → Int} {f : Int} (hf : 0 ≤ f ∧ f < 64) : ∀ n : Nat, (∀ i, i < n → 0 ≤ g i ∧ g i < 64) → (bt (cbs g n) f ↔ ∃ i, i < n ∧ g i = f)
  | 0, _ => ⟨fun z => absurd z bt_0, fun ⟨i, hi, _⟩ => absurd hi (by omega)⟩
  | n + 1, hg => by
    unfold cbs
    rw [bt_or, bt_cbs hf n (fun i hi => hg i (by omega)), bit_bt (hg n (by omega)) hf]
    constructor
    · rintro (⟨i, hi, e⟩ | e)
      · exact ⟨i, by omega, e⟩
      · exact ⟨n, by omega, e.symm⟩
    · rintro ⟨i, hi, e⟩
      by_cases q : i = n
      · subst q; exact Or.inr e.symm
      · exact Or.inl ⟨i, by omega, e⟩
def cal (h : AH) (s : Nat) : Int64 := cbs (hI h (4, s, 6)) (hI h (4, s, 0) 1).toNat
theorem kX4_allWaiting (W : SchW h s) (B : SB h s) (hw : ∀ i : Nat, 0 ≤ hI h (4, s, 6) i ∧ hI h (4, s, 6) i < 46) (k : Q h (.inl (some (vl (cal h s))))) : AC mX4_allWaiting fX4_allWaiting loX4_allWaiting 0 0 h [vr (4, s, 0)] Q := by
  have B0 := B.2.1
  refine AC.mk (by decide) (Nat.le_of_ble_eq_true rfl) ?_
  have lp : ∀ (m i : Nat), (i : Int) ≤ hI h (4, s, 0) 1 → hI h (4, s, 0) 1 ≤ i + m → AW mX4_allWaiting fX4_allWaiting loX4_allWaiting 0 0 Q 0 0 4 h [(3, vi (i : Int)), (1, vl (cbs (hI h (4, s, 6)) i)), (0, vr (4, s, 0))] [] := by
    intro m
    induction m with
    | zero =>
      intro i h1 h2
      have e : (hI h (4, s, 0) 1).toNat = i := by omega
      refine AW.iload_n dX4_allWaiting_4 rfl ?_
      refine AW.aload_n dX4_allWaiting_5 rfl ?_
      refine AW.getIE (j := 1) W.o dX4_allWaiting_6 lkX4_100 rfl rfl inC5 rfl rfl ?_
      refine AW.icmp_ge (tgt := 36) dX4_allWaiting_9 rfl (fun c_9 => ?_) (fun c_9 => ?_)
      · refine AW.lload_n dX4_allWaiting_36 rfl ?_
        refine AW.lret dX4_allWaiting_37 rfl ?_
        unfold cal at k
        rw [e] at k
        exact k
      · exact absurd c_9 (by omega)
    | succ m ih =>
      intro i h1 h2
      by_cases e : hI h (4, s, 0) 1 = (i : Int)
      · exact ih i h1 (by omega)
      have w := hw (i : Int).toNat
      refine AW.iload_n dX4_allWaiting_4 rfl ?_
      refine AW.aload_n dX4_allWaiting_5 rfl ?_
      refine AW.getIE (j := 1) W.o dX4_allWaiting_6 lkX4_100 rfl rfl inC5 rfl rfl ?_
      refine AW.icmp_ge (tgt := 36) dX4_allWaiting_9 rfl (fun c_9 => ?_) (fun c_9 => ?_)
      · exact absurd c_9 (by omega)
      · refine AW.iload_n dX4_allWaiting_12 rfl ?_
        refine AW.bipush dX4_allWaiting_13 bp_46 (by decide) ?_
        refine AW.icmp_ge (tgt := 36) dX4_allWaiting_15 rfl (fun c_15 => ?_) (fun c_15 => ?_)
        · exact absurd c_15 (by omega)
        · refine AW.lload_n dX4_allWaiting_18 rfl ?_
          refine AW.aload_n dX4_allWaiting_19 rfl ?_
          refine AW.getRE (j := 8) W.o dX4_allWaiting_20 lkX4_33 rfl rfl inC5 rfl W.r8 ?_
          refine AW.iload_n dX4_allWaiting_23 rfl ?_
          refine AW.aldIE dX4_allWaiting_24 W.t8 (by omega) (by omega) rfl ?_
          refine AW.callSN (as := [vi _]) dX4_allWaiting_25 rfl rfl rfl okX7_bit lkX4_93 rfl rfl rfl rfl rfl (kX7_bit (by omega) (AW.k1 ?_))
          refine AW.lor dX4_allWaiting_28 ?_
          refine AW.lstore_n dX4_allWaiting_29 rfl ?_
          refine AW.iincB dX4_allWaiting_30 rfl rfl (by omega) ?_
          refine AW.goto (tgt := 4) dX4_allWaiting_33 rfl ?_
          exact AW.locs [(3, vi ((i + 1 : Nat) : Int)), (1, vl (cbs (hI h (4, s, 6)) (i + 1))), (0, vr (4, s, 0))] ⟨rfl, rfl, rfl, trivial⟩ (ih (i + 1) (by omega) (by omega))
  refine AW.lconst dX4_allWaiting_0 ?_
  refine AW.lstore_n dX4_allWaiting_1 rfl ?_
  refine AW.iconst dX4_allWaiting_2 (by decide) ?_
  refine AW.istore_n dX4_allWaiting_3 rfl ?_
  exact lp (hI h (4, s, 0) 1).toNat 0 (by omega) (by omega)
theorem kX4_isWaiting {f : Int} (W : SchW h s) (B : SB h s) (hw : ∀ i : Nat, 0 ≤ hI h (4, s, 6) i ∧ hI h (4, s, 6) i < 46) (hf : 0 ≤ f ∧ f < 64) (k : Q h (.inl (some (vi (bz (bt (cal h s) f)))))) : AC mX4_isWaiting fX4_isWaiting loX4_isWaiting 0 0 h [vr (4, s, 0), vi f] Q := by
  refine AC.mk (by decide) (Nat.le_of_ble_eq_true rfl) ?_
  refine AW.aload_n dX4_isWaiting_0 rfl ?_
  refine AW.callV (as := []) dX4_isWaiting_1 rfl rfl rfl okX4_allWaiting lkX4_97 W.o rfl rfl rfl rfl rfl rfl rfl (kX4_allWaiting W B (by assumption) (AW.k1 ?_))
  refine AW.iload_n dX4_isWaiting_4 rfl ?_
  refine AW.callSN (as := [vl _, vi _]) dX4_isWaiting_5 rfl rfl rfl okX7_contains lkX4_69 rfl rfl rfl rfl rfl (kX7_contains (by omega) (AW.k1 ?_))
  refine AW.zret dX4_isWaiting_8 rfl ?_ ?_
  · exact bz01 _
  exact k
def cfr (h : AH) (s : Nat) (f : Int) : Int := bz (ckd h s f = 0 ∧ ¬ bt (cal h s) f)
theorem kX4_isFreeNumber {f : Int} (W : SchW h s) (B : SB h s) (hw : ∀ i : Nat, 0 ≤ hI h (4, s, 6) i ∧ hI h (4, s, 6) i < 46) (hf : 0 ≤ f ∧ f < 64) (k : Q h (.inl (some (vi (cfr h s f))))) : AC mX4_isFreeNumber fX4_isFreeNumber loX4_isFreeNumber 0 0 h [vr (4, s, 0), vi f] Q := by
  refine AC.mk (by decide) (Nat.le_of_ble_eq_true rfl) ?_
  refine AW.aload_n dX4_isFreeNumber_0 rfl ?_
  refine AW.iload_n dX4_isFreeNumber_1 rfl ?_
  refine AW.callV (as := [vi _]) dX4_isFreeNumber_2 rfl rfl rfl okX4_kindOf lkX4_73 W.o rfl rfl rfl rfl rfl rfl rfl (kX4_kindOf W B (AW.k1 ?_))
  refine' AW.if_neJ 21 (tgt := 20) dX4_isFreeNumber_5 rfl _ _ _
  rotate_left 2
  · intro c_5 k_5
    refine AW.iconst dX4_isFreeNumber_20 (by decide) ?_
    exact k_5
  · intro c_5 k_5
    refine AW.aload_n dX4_isFreeNumber_8 rfl ?_
    refine AW.iload_n dX4_isFreeNumber_9 rfl ?_
    refine AW.callV (as := [vi _]) dX4_isFreeNumber_10 rfl rfl rfl okX4_isWaiting lkX4_77 W.o rfl rfl rfl rfl rfl rfl rfl (kX4_isWaiting W B (by assumption) (by omega) (AW.k1 ?_))
    refine' AW.if_neJ 21 (tgt := 20) dX4_isFreeNumber_13 rfl _ _ _
    rotate_left 2
    · intro c_13 k_13
      refine AW.iconst dX4_isFreeNumber_20 (by decide) ?_
      exact k_13
    · intro c_13 k_13
      refine AW.iconst dX4_isFreeNumber_16 (by decide) ?_
      refine AW.goto (tgt := 21) dX4_isFreeNumber_17 rfl ?_
      exact k_13
    exact k_5
  refine AW.zret dX4_isFreeNumber_21 rfl ?_ ?_
  · (repeat' split) <;> simp
  refine fin1 k rfl ?_
  unfold cfr
  simp only [bz_0]
  unfold bz
  (repeat' split) <;> first | rfl | (simp_all; done)
def ctg (a b : Int) : Int64 := if b = -1 then (if a = -1 then 0 else 0 ||| bitI a) else (if a = -1 then 0 else 0 ||| bitI a) ||| bitI b
end C2

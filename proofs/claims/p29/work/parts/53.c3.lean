/-! ===== the class: steps, and the writes of schemas ===== -/
section C3
variable {Q : AH → AO → Prop} {h : AH} {s : Nat}
theorem kX6_together {n : Nm} {a b : Int} (hn : hT h n = some (20, 2)) (ha : hI h n 0 = a) (hb : hI h n 1 = b) (h1 : -1 ≤ a ∧ a < 64) (h2 : -1 ≤ b ∧ b < 64) (k : Q h (.inl (some (vl (ctg a b))))) : AC mX6_together fX6_together loX6_together 0 0 h [vr n] Q := by
  refine AC.mk (by decide) (Nat.le_of_ble_eq_true rfl) ?_
  have e2 : ∀ x, x = ctg a b → AW mX6_together fX6_together loX6_together 0 0 Q 0 0 4 h [(3, vi 2), (1, vl x), (0, vr n)] [] := by
    intro x ex
    subst ex
    refine AW.iload_n dX6_together_4 rfl ?_
    refine AW.aload_n dX6_together_5 rfl ?_
    refine AW.alen (t := 0) dX6_together_6 hn (by decide) (by decide) ?_
    refine AW.icmp_ge (tgt := 32) dX6_together_7 rfl (fun c_7 => ?_) (fun c_7 => ?_)
    · refine AW.lload_n dX6_together_32 rfl ?_
      refine AW.lret dX6_together_33 rfl ?_
      exact k
    · exact absurd c_7 (by decide)
  have e1 : ∀ x, x = (if a = -1 then 0 else 0 ||| bitI a) → AW mX6_together fX6_together loX6_together 0 0 Q 0 0 4 h [(3, vi 1), (1, vl x), (0, vr n)] [] := by
    intro x ex
    refine AW.iload_n dX6_together_4 rfl ?_
    refine AW.aload_n dX6_together_5 rfl ?_
    refine AW.alen (t := 0) dX6_together_6 hn (by decide) (by decide) ?_
    refine AW.icmp_ge (tgt := 32) dX6_together_7 rfl (fun c_7 => ?_) (fun c_7 => ?_)
    · exact absurd c_7 (by decide)
    · refine AW.aload_n dX6_together_10 rfl ?_
      refine AW.iload_n dX6_together_11 rfl ?_
      refine AW.aldIE dX6_together_12 hn (by omega) (by omega) (by exact hb) ?_
      refine AW.iconst dX6_together_13 (by decide) ?_
      refine AW.icmp_eq (tgt := 26) dX6_together_14 rfl (fun c_14 => ?_) (fun c_14 => ?_)
      · refine AW.iincB dX6_together_26 rfl rfl (by omega) ?_
        refine AW.goto (tgt := 4) dX6_together_29 rfl ?_
        refine AW.locs [(3, vi 2), (1, vl (ctg a b)), (0, vr n)] ⟨rfl, ?_, rfl, trivial⟩ (e2 _ rfl)
        show some (vl _) = some (vl _)
        congr 2
        subst ex
        unfold ctg
        first | rw [if_pos c_14] | rw [if_neg c_14]
      · refine AW.lload_n dX6_together_17 rfl ?_
        refine AW.aload_n dX6_together_18 rfl ?_
        refine AW.iload_n dX6_together_19 rfl ?_
        refine AW.aldIE dX6_together_20 hn (by omega) (by omega) (by exact hb) ?_
        refine AW.callSN (as := [vi _]) dX6_together_21 rfl rfl rfl okX7_bit lkX6_29 rfl rfl rfl rfl rfl (kX7_bit (by omega) (AW.k1 ?_))
        refine AW.lor dX6_together_24 ?_
        refine AW.lstore_n dX6_together_25 rfl ?_
        refine AW.iincB dX6_together_26 rfl rfl (by omega) ?_
        refine AW.goto (tgt := 4) dX6_together_29 rfl ?_
        refine AW.locs [(3, vi 2), (1, vl (ctg a b)), (0, vr n)] ⟨rfl, ?_, rfl, trivial⟩ (e2 _ rfl)
        show some (vl _) = some (vl _)
        congr 2
        subst ex
        unfold ctg
        first | rw [if_pos c_14] | rw [if_neg c_14]
  refine AW.lconst dX6_together_0 ?_
  refine AW.lstore_n dX6_together_1 rfl ?_
  refine AW.iconst dX6_together_2 (by decide) ?_
  refine AW.istore_n dX6_together_3 rfl ?_
  skip
  refine AW.iload_n dX6_together_4 rfl ?_
  refine AW.aload_n dX6_together_5 rfl ?_
  refine AW.alen (t := 0) dX6_together_6 hn (by decide) (by decide) ?_
  refine AW.icmp_ge (tgt := 32) dX6_together_7 rfl (fun c_7 => ?_) (fun c_7 => ?_)
  · exact absurd c_7 (by decide)
  · refine AW.aload_n dX6_together_10 rfl ?_
    refine AW.iload_n dX6_together_11 rfl ?_
    refine AW.aldIE dX6_together_12 hn (by omega) (by omega) (by exact ha) ?_
    refine AW.iconst dX6_together_13 (by decide) ?_
    refine AW.icmp_eq (tgt := 26) dX6_together_14 rfl (fun c_14 => ?_) (fun c_14 => ?_)
    · refine AW.iincB dX6_together_26 rfl rfl (by omega) ?_
      refine AW.goto (tgt := 4) dX6_together_29 rfl ?_
      refine AW.locs [(3, vi 1), (1, vl (if a = -1 then 0 else 0 ||| bitI a)), (0, vr n)] ⟨rfl, ?_, rfl, trivial⟩ (e1 _ rfl)
      show some (vl _) = some (vl _)
      congr 2
      first | rw [if_pos c_14]; rfl | rw [if_neg c_14]; rfl
    · refine AW.lload_n dX6_together_17 rfl ?_
      refine AW.aload_n dX6_together_18 rfl ?_
      refine AW.iload_n dX6_together_19 rfl ?_
      refine AW.aldIE dX6_together_20 hn (by omega) (by omega) (by exact ha) ?_
      refine AW.callSN (as := [vi _]) dX6_together_21 rfl rfl rfl okX7_bit lkX6_29 rfl rfl rfl rfl rfl (kX7_bit (by omega) (AW.k1 ?_))
      refine AW.lor dX6_together_24 ?_
      refine AW.lstore_n dX6_together_25 rfl ?_
      refine AW.iincB dX6_together_26 rfl rfl (by omega) ?_
      refine AW.goto (tgt := 4) dX6_together_29 rfl ?_
      refine AW.locs [(3, vi 1), (1, vl (if a = -1 then 0 else 0 ||| bitI a)), (0, vr n)] ⟨rfl, ?_, rfl, trivial⟩ (e1 _ rfl)
      show some (vl _) = some (vl _)
      congr 2
      first | rw [if_pos c_14]; rfl | rw [if_neg c_14]; rfl
/-- the fields of a step are fields or none -/
def PB (h : AH) (k : Nat) : Prop := (-1 ≤ hI h (6, k, 0) 0 ∧ hI h (6, k, 0) 0 < 46) ∧ (-1 ≤ hI h (6, k, 0) 1 ∧ hI h (6, k, 0) 1 < 46) ∧ (-1 ≤ hI h (7, k, 0) 0 ∧ hI h (7, k, 0) 0 < 46) ∧ (-1 ≤ hI h (7, k, 0) 1 ∧ hI h (7, k, 0) 1 < 46)
def cff (h : AH) (k : Nat) : Int64 := ctg (hI h (6, k, 0) 0) (hI h (6, k, 0) 1)
def cbf (h : AH) (k : Nat) : Int64 := ctg (hI h (7, k, 0) 0) (hI h (7, k, 0) 1)
theorem kX6_frontFields {p : Nat} (W : StpW h p) (B : PB h p) (k : Q h (.inl (some (vl (cff h p))))) : AC mX6_frontFields fX6_frontFields loX6_frontFields 0 0 h [vr (5, p, 0)] Q := by
  have B1 := B.1
  have B2 := B.2.1
  refine AC.mk (by decide) (Nat.le_of_ble_eq_true rfl) ?_
  refine AW.aload_n dX6_frontFields_0 rfl ?_
  refine AW.getRE (j := 1) W.o dX6_frontFields_1 lkX6_15 rfl rfl inC7 rfl W.r1 ?_
  refine AW.callS (as := [vq _]) dX6_frontFields_4 rfl rfl rfl okX6_together lkX6_25 rfl rfl rfl rfl rfl rfl (kX6_together W.t1 rfl rfl (by omega) (by omega) (AW.k1 ?_))
  refine AW.lret dX6_frontFields_7 rfl ?_
  exact k
theorem kX6_behindFields {p : Nat} (W : StpW h p) (B : PB h p) (k : Q h (.inl (some (vl (cbf h p))))) : AC mX6_behindFields fX6_behindFields loX6_behindFields 0 0 h [vr (5, p, 0)] Q := by
  have B1 := B.2.2.1
  have B2 := B.2.2.2
  refine AC.mk (by decide) (Nat.le_of_ble_eq_true rfl) ?_
  refine AW.aload_n dX6_behindFields_0 rfl ?_
  refine AW.getRE (j := 2) W.o dX6_behindFields_1 lkX6_19 rfl rfl inC7 rfl W.r2 ?_
  refine AW.callS (as := [vq _]) dX6_behindFields_4 rfl rfl rfl okX6_together lkX6_25 rfl rfl rfl rfl rfl rfl (kX6_together W.t2 rfl rfl (by omega) (by omega) (AW.k1 ?_))
  refine AW.lret dX6_behindFields_7 rfl ?_
  exact k
theorem kX6_isInFront {p : Nat} {f : Int} (W : StpW h p) (k : Q h (.inl (some (vi (bz (f = hI h (6, p, 0) 0 ∨ f = hI h (6, p, 0) 1)))))) : AC mX6_isInFront fX6_isInFront loX6_isInFront 0 0 h [vr (5, p, 0), vi f] Q := by
  refine AC.mk (by decide) (Nat.le_of_ble_eq_true rfl) ?_
  refine AW.iload_n dX6_isInFront_0 rfl ?_
  refine AW.aload_n dX6_isInFront_1 rfl ?_
  refine AW.getRE (j := 1) W.o dX6_isInFront_2 lkX6_15 rfl rfl inC7 rfl W.r1 ?_
  refine AW.iconst dX6_isInFront_5 (by decide) ?_
  refine AW.aldIE dX6_isInFront_6 W.t1 (by decide) (by decide) rfl ?_
  refine' AW.icmp_eqJ 25 (tgt := 20) dX6_isInFront_7 rfl _ _ _
  rotate_left 2
  · intro c_7 k_7
    refine AW.iconst dX6_isInFront_20 (by decide) ?_
    refine AW.goto (tgt := 25) dX6_isInFront_21 rfl ?_
    exact k_7
  · intro c_7 k_7
    refine AW.iload_n dX6_isInFront_10 rfl ?_
    refine AW.aload_n dX6_isInFront_11 rfl ?_
    refine AW.getRE (j := 1) W.o dX6_isInFront_12 lkX6_15 rfl rfl inC7 rfl W.r1 ?_
    refine AW.iconst dX6_isInFront_15 (by decide) ?_
    refine AW.aldIE dX6_isInFront_16 W.t1 (by decide) (by decide) rfl ?_
    refine' AW.icmp_neJ 25 (tgt := 24) dX6_isInFront_17 rfl _ _ _
    rotate_left 2
    · intro c_17 k_17
      refine AW.iconst dX6_isInFront_24 (by decide) ?_
      exact k_17
    · intro c_17 k_17
      refine AW.iconst dX6_isInFront_20 (by decide) ?_
      refine AW.goto (tgt := 25) dX6_isInFront_21 rfl ?_
      exact k_17
    exact k_7
  refine AW.zret dX6_isInFront_25 rfl ?_ ?_
  · (repeat' split) <;> simp
  refine fin1 k rfl ?_
  unfold bz
  (repeat' split) <;> first | rfl | (simp_all; done)
def cmf (h : AH) (s : Nat) (kd v : Int) : AH := sI (sI (sI h (4, s, 1) (hI h (4, s, 0) 2).toNat kd) (4, s, 2) (hI h (4, s, 0) 2).toNat v) (4, s, 0) 2 (hI h (4, s, 0) 2 + 1)
theorem kX4_makeField {kd v : Int} (W : SchW h s) (B : SB h s) (hf : hI h (4, s, 0) 2 < 46) (k : Q (cmf h s kd v) (.inl (some (vi (hI h (4, s, 0) 2))))) : AC mX4_makeField fX4_makeField loX4_makeField 0 0 h [vr (4, s, 0), vi kd, vi v] Q := by
  have B0 := B.2.2
  refine AC.mk (by decide) (Nat.le_of_ble_eq_true rfl) ?_
  refine AW.aload_n dX4_makeField_0 rfl ?_
  refine AW.getIE (j := 2) W.o dX4_makeField_1 lkX4_52 rfl rfl inC5 rfl rfl ?_
  refine AW.istore_n dX4_makeField_4 rfl ?_
  refine AW.iload_n dX4_makeField_5 rfl ?_
  refine AW.bipush dX4_makeField_6 bp_46 (by decide) ?_
  refine AW.icmp_lt (tgt := 13) dX4_makeField_8 rfl (fun c_8 => ?_) (fun c_8 => ?_)
  · refine AW.aload_n dX4_makeField_13 rfl ?_
    refine AW.getRE (j := 3) W.o dX4_makeField_14 lkX4_9 rfl rfl inC5 rfl W.r3 ?_
    refine AW.iload_n dX4_makeField_17 rfl ?_
    refine AW.iload_n dX4_makeField_18 rfl ?_
    refine AW.astI dX4_makeField_19 W.t3 (by omega) (by omega) ?_
    refine AW.aload_n dX4_makeField_20 rfl ?_
    refine AW.getRE (j := 4) W.o dX4_makeField_21 lkX4_15 rfl rfl inC5 rfl W.r4 ?_
    refine AW.iload_n dX4_makeField_24 rfl ?_
    refine AW.iload_n dX4_makeField_25 rfl ?_
    refine AW.astI dX4_makeField_26 W.t4 (by omega) (by omega) ?_
    refine AW.aload_n dX4_makeField_27 rfl ?_
    refine AW.dup dX4_makeField_28 rfl ?_
    refine AW.getIE (j := 2) W.o dX4_makeField_29 lkX4_52 rfl rfl inC5 rfl (by (repeat first | apply hI_n1 rfl | apply hI_n3 rfl | apply hI_e (by omega) | apply hI_m (by omega)); exact rfl) ?_
    refine AW.iconst dX4_makeField_32 (by decide) ?_
    refine AW.iaddB dX4_makeField_33 (by omega) ?_
    refine AW.putI (j := 2) dX4_makeField_34 W.o rfl rfl inC5 lkX4_52 rfl (Or.inl rfl) (Or.inl rfl) ?_
    refine AW.iload_n dX4_makeField_37 rfl ?_
    refine AW.iret dX4_makeField_38 rfl ?_
    exact k
  · exact absurd c_8 (by omega)
def clw (h : AH) (s : Nat) (f : Int) : AH := sI (sI h (4, s, 6) (hI h (4, s, 0) 1).toNat f) (4, s, 0) 1 (hI h (4, s, 0) 1 + 1)
theorem kX4_letWait {f : Int} (W : SchW h s) (B : SB h s) (hf : hI h (4, s, 0) 1 < 46) (k : Q (clw h s f) (.inl none)) : AC mX4_letWait fX4_letWait loX4_letWait 0 0 h [vr (4, s, 0), vi f] Q := by
  have B0 := B.2.1
  refine AC.mk (by decide) (Nat.le_of_ble_eq_true rfl) ?_
  refine AW.aload_n dX4_letWait_0 rfl ?_
  refine AW.getIE (j := 1) W.o dX4_letWait_1 lkX4_100 rfl rfl inC5 rfl rfl ?_
  refine AW.bipush dX4_letWait_4 bp_46 (by decide) ?_
  refine AW.icmp_ge (tgt := 29) dX4_letWait_6 rfl (fun c_6 => ?_) (fun c_6 => ?_)
  · exact absurd c_6 (by omega)
  · refine AW.aload_n dX4_letWait_9 rfl ?_
    refine AW.getRE (j := 8) W.o dX4_letWait_10 lkX4_33 rfl rfl inC5 rfl W.r8 ?_
    refine AW.aload_n dX4_letWait_13 rfl ?_
    refine AW.getIE (j := 1) W.o dX4_letWait_14 lkX4_100 rfl rfl inC5 rfl rfl ?_
    refine AW.iload_n dX4_letWait_17 rfl ?_
    refine AW.astI dX4_letWait_18 W.t8 (by omega) (by omega) ?_
    refine AW.aload_n dX4_letWait_19 rfl ?_
    refine AW.dup dX4_letWait_20 rfl ?_
    refine AW.getIE (j := 1) W.o dX4_letWait_21 lkX4_100 rfl rfl inC5 rfl (by (repeat first | apply hI_n1 rfl | apply hI_n3 rfl | apply hI_e (by omega) | apply hI_m (by omega)); exact rfl) ?_
    refine AW.iconst dX4_letWait_24 (by decide) ?_
    refine AW.iaddB dX4_letWait_25 (by omega) ?_
    refine AW.putI (j := 1) dX4_letWait_26 W.o rfl rfl inC5 lkX4_100 rfl (Or.inl rfl) (Or.inl rfl) ?_
    refine AW.vret dX4_letWait_29 rfl ?_
    exact k
def cpl (h : AH) (s : Nat) (f n nd : Int) : AH := sL (sI h (4, s, 100 + (hI h (4, s, 0) 0).toNat) n.toNat f) (4, s, 4) (hI h (4, s, 0) 0).toNat (hL h (4, s, 4) (hI h (4, s, 0) 0).toNat ||| (if nd = 0 then 0 else bitI f))
theorem kX4_place {f n nd : Int} (W : SchW h s) (B : SB h s) (hn : 0 ≤ n ∧ n ≤ 25) (hf : 0 ≤ f ∧ f < hI h (4, s, 0) 2) (k : Q (cpl h s f n nd) (.inl none)) : AC mX4_place fX4_place loX4_place 0 0 h [vr (4, s, 0), vi f, vi n, vi nd] Q := by
  have B0 := B.1
  have B2 := B.2.2
  refine AC.mk (by decide) (Nat.le_of_ble_eq_true rfl) ?_
  refine AW.aload_n dX4_place_0 rfl ?_
  refine AW.aload_n dX4_place_1 rfl ?_
  refine AW.getIE (j := 0) W.o dX4_place_2 lkX4_48 rfl rfl inC5 rfl rfl ?_
  refine AW.callV (as := [vi _]) dX4_place_5 rfl rfl rfl okX4_isVersion lkX4_55 W.o rfl rfl rfl rfl rfl rfl rfl (kX4_isVersion W B (AW.k1 ?_))
  refine AW.if_eq (tgt := 62) dX4_place_8 rfl (fun c_8 => ?_) (fun c_8 => ?_)
  · exact absurd (bz_0.mp c_8) (by omega)
  · refine AW.iload_n dX4_place_11 rfl ?_
    refine AW.callSN (as := [vi _]) dX4_place_12 rfl rfl rfl okX7_isName lkX4_59 rfl rfl rfl rfl rfl (kX7_isName  (AW.k1 ?_))
    refine AW.if_eq (tgt := 62) dX4_place_15 rfl (fun c_15 => ?_) (fun c_15 => ?_)
    · exact absurd (bz_0.mp c_15) (by omega)
    · refine AW.aload_n dX4_place_18 rfl ?_
      refine AW.iload_n dX4_place_19 rfl ?_
      refine AW.callV (as := [vi _]) dX4_place_20 rfl rfl rfl okX4_isField lkX4_66 W.o rfl rfl rfl rfl rfl rfl rfl (kX4_isField W B (AW.k1 ?_))
      refine AW.if_eq (tgt := 62) dX4_place_23 rfl (fun c_23 => ?_) (fun c_23 => ?_)
      · exact absurd (bz_0.mp c_23) (by omega)
      · refine AW.aload_n dX4_place_26 rfl ?_
        refine AW.getRE (j := 5) W.o dX4_place_27 lkX4_20 rfl rfl inC5 rfl W.r5 ?_
        refine AW.aload_n dX4_place_30 rfl ?_
        refine AW.getIE (j := 0) W.o dX4_place_31 lkX4_48 rfl rfl inC5 rfl rfl ?_
        refine AW.aldR (t := 9) dX4_place_34 W.t5 (by decide) rfl (by omega) (by omega) (W.v (v := (hI h (4, s, 0) 0).toNat) (by omega)) ?_
        refine AW.iload_n dX4_place_35 rfl ?_
        refine AW.iload_n dX4_place_36 rfl ?_
        refine AW.astI dX4_place_37 (W.tv (v := (hI h (4, s, 0) 0).toNat) (by omega)) (by omega) (by omega) ?_
        refine AW.aload_n dX4_place_38 rfl ?_
        refine AW.getRE (j := 6) W.o dX4_place_39 lkX4_23 rfl rfl inC5 rfl W.r6 ?_
        refine AW.aload_n dX4_place_42 rfl ?_
        refine AW.getIE (j := 0) W.o dX4_place_43 lkX4_48 rfl rfl inC5 rfl (by exact hI_n3 (beq_ne (by show ¬ (0 : Nat) = 100 + _; omega)) rfl) ?_
        refine AW.dup2 dX4_place_46 rfl rfl ?_
        refine AW.aldLE dX4_place_47 W.t6 (by omega) (by omega) (by (repeat first | apply hI_n1 rfl | apply hI_n3 rfl | apply hI_e (by omega) | apply hI_m (by omega)); exact rfl) ?_
        refine AW.iload_n dX4_place_48 rfl ?_
        refine AW.if_eq (tgt := 59) dX4_place_49 rfl (fun c_49 => ?_) (fun c_49 => ?_)
        · refine AW.lconst dX4_place_59 ?_
          refine AW.lor dX4_place_60 ?_
          refine AW.astL dX4_place_61 W.t6 (by omega) (by omega) ?_
          refine AW.vret dX4_place_62 rfl ?_
          refine fin0 k ?_
          unfold cpl
          first | rw [if_pos c_49] | rw [if_neg c_49]
          rfl
        · refine AW.iload_n dX4_place_52 rfl ?_
          refine AW.callSN (as := [vi _]) dX4_place_53 rfl rfl rfl okX7_bit lkX4_93 rfl rfl rfl rfl rfl (kX7_bit (by omega) (AW.k1 ?_))
          refine AW.goto (tgt := 60) dX4_place_56 rfl ?_
          refine AW.lor dX4_place_60 ?_
          refine AW.astL dX4_place_61 W.t6 (by omega) (by omega) ?_
          refine AW.vret dX4_place_62 rfl ?_
          refine fin0 k ?_
          unfold cpl
          first | rw [if_pos c_49] | rw [if_neg c_49]
          rfl
end C3

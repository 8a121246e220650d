/-! ===== the class: steps are made; states of rows ===== -/
section C5
variable {Q : AH → AO → Prop} {h : AH} {s : Nat}
theorem hT_new {n : Nm} {k len : Nat} : hT (aN h n k len) n = some (k, len) := by rw [hT_aN, if_pos rfl]
theorem hT_old {n m : Nm} {k len : Nat} {x : Option (Nat × Nat)} (hn : ¬ n = m) (e : hT h n = x) : hT (aN h m k len) n = x := by rw [hT_aN, if_neg hn, e]
def cs1 (h : AH) (p : Nat) (kd a b : Int) : AH := sR (sI (sI (aN (sI h (5, p, 0) 0 kd) (6, p, 0) 20 2) (6, p, 0) 0 a) (6, p, 0) 1 b) (5, p, 0) 1 (some (6, p, 0))
def cs2 (h : AH) (p : Nat) (c d fc : Int) : AH := sI (sR (sI (sI (aN h (7, p, 0) 20 2) (7, p, 0) 0 c) (7, p, 0) 1 d) (5, p, 0) 2 (some (7, p, 0))) (5, p, 0) 3 fc
theorem kX6_init {p : Nat} {kd a b c d fc : Int} (h0 : hT h (5, p, 0) = some (7, 0)) (h1 : hT h (6, p, 0) = none) (h2 : hT h (7, p, 0) = none) (k : Q (cs2 (cs1 h p kd a b) p c d fc) (.inl none)) : AC mX6_init fX6_init loX6_init 2 4 h [vr (5, p, 0), vi kd, vi a, vi b, vi c, vi d, vi fc] Q := by
  have n56 : ¬ (5, p, 0) = ((6, p, 0) : Nm) := fun e => by simp at e
  have n57 : ¬ (5, p, 0) = ((7, p, 0) : Nm) := fun e => by simp at e
  have n76 : ¬ (7, p, 0) = ((6, p, 0) : Nm) := fun e => by simp at e
  have h5 : hT (cs1 h p kd a b) (5, p, 0) = some (7, 0) := hT_old (m := (6, p, 0)) (k := 20) (len := 2) n56 h0
  have h7 : hT (cs1 h p kd a b) (7, p, 0) = none := hT_old (m := (6, p, 0)) (k := 20) (len := 2) n76 h2
  refine AC.mk (by decide) (Nat.le_of_ble_eq_true rfl) ?_
  refine AW.aload_n dX6_init_0 rfl ?_
  refine AW.objInit dX6_init_1 lkX6_3 oi1 oi2 rfl rfl rfl ?_
  refine AW.aload_n dX6_init_4 rfl ?_
  refine AW.iload_n dX6_init_5 rfl ?_
  refine AW.putI (j := 0) dX6_init_6 h0 rfl rfl inC7 lkX6_9 rfl (Or.inr ⟨rfl, rfl, rfl⟩) (Or.inl rfl) ?_
  refine AW.aload_n dX6_init_9 rfl ?_
  refine AW.iconst dX6_init_10 (by decide) ?_
  refine AW.newa (t := 0) (N := 2) (6, p, 0) h1 dX6_init_11 (by decide) rfl arc_int rfl (by decide) (by decide) (by intro C e; cases e) rfl rfl ?_
  refine AW.dup dX6_init_13 rfl ?_
  refine AW.iconst dX6_init_14 (by decide) ?_
  refine AW.iload_n dX6_init_15 rfl ?_
  refine AW.astI dX6_init_16 hT_new (by decide) (by decide) ?_
  refine AW.dup dX6_init_17 rfl ?_
  refine AW.iconst dX6_init_18 (by decide) ?_
  refine AW.iload_n dX6_init_19 rfl ?_
  refine AW.astI dX6_init_20 (hT_new (h := sI h (5, p, 0) 0 kd)) (by decide) (by decide) ?_
  refine AW.putR (j := 1) dX6_init_21 h5 rfl rfl inC7 lkX6_15 rfl (Or.inr ⟨rfl, rfl, rfl⟩) ?_
  refine AW.heq (h2 := cs1 h p kd a b) rfl ?_
  refine AW.aload_n dX6_init_24 rfl ?_
  refine AW.iconst dX6_init_25 (by decide) ?_
  refine AW.newa (t := 0) (N := 2) (7, p, 0) h7 dX6_init_26 (by decide) rfl arc_int rfl (by decide) (by decide) (by intro C e; cases e) rfl rfl ?_
  refine AW.dup dX6_init_28 rfl ?_
  refine AW.iconst dX6_init_29 (by decide) ?_
  refine AW.iload dX6_init_30 rfl ?_
  refine AW.astI dX6_init_32 hT_new (by decide) (by decide) ?_
  refine AW.dup dX6_init_33 rfl ?_
  refine AW.iconst dX6_init_34 (by decide) ?_
  refine AW.iload dX6_init_35 rfl ?_
  refine AW.astI dX6_init_37 (hT_new (h := cs1 h p kd a b)) (by decide) (by decide) ?_
  refine AW.putR (j := 2) dX6_init_38 (hT_old (h := cs1 h p kd a b) (m := (7, p, 0)) (k := 20) (len := 2) n57 h5) rfl rfl inC7 lkX6_19 rfl (Or.inr ⟨rfl, rfl, rfl⟩) ?_
  refine AW.aload_n dX6_init_41 rfl ?_
  refine AW.iload dX6_init_42 rfl ?_
  refine AW.putI (j := 3) dX6_init_44 (hT_old (h := cs1 h p kd a b) (m := (7, p, 0)) (k := 20) (len := 2) n57 h5) rfl rfl inC7 lkX6_22 rfl (Or.inr ⟨rfl, rfl, rfl⟩) (Or.inl rfl) ?_
  refine AW.vret dX6_init_47 rfl ?_
  exact k
theorem kX5_valueOf {a b : Nat} {f : Int} (W : StaW h a b) (k : Q h (.inl (some (vi (if 0 ≤ f ∧ f < 46 then hI h (a, b, 1) f.toNat else -1))))) : AC mX5_valueOf fX5_valueOf loX5_valueOf 0 0 h [vr (a, b, 0), vi f] Q := by
  refine AC.mk (by decide) (Nat.le_of_ble_eq_true rfl) ?_
  refine AW.iload_n dX5_valueOf_0 rfl ?_
  refine' AW.if_ltJ 20 (tgt := 19) dX5_valueOf_1 rfl _ _ _
  rotate_left 2
  · intro c_1 k_1
    refine AW.iconst dX5_valueOf_19 (by decide) ?_
    exact k_1
  · intro c_1 k_1
    refine AW.iload_n dX5_valueOf_4 rfl ?_
    refine AW.bipush dX5_valueOf_5 bp_46 (by decide) ?_
    refine' AW.icmp_geJ 20 (tgt := 19) dX5_valueOf_7 rfl _ _ _
    rotate_left 2
    · intro c_7 k_7
      refine AW.iconst dX5_valueOf_19 (by decide) ?_
      exact k_7
    · intro c_7 k_7
      refine AW.aload_n dX5_valueOf_10 rfl ?_
      refine AW.getRE (j := 2) W.o dX5_valueOf_11 lkX5_9 rfl rfl inC6 rfl W.r2 ?_
      refine AW.iload_n dX5_valueOf_14 rfl ?_
      refine AW.aldIE dX5_valueOf_15 W.t2 (by omega) (by omega) rfl ?_
      refine AW.goto (tgt := 20) dX5_valueOf_16 rfl ?_
      exact k_7
    exact k_1
  refine AW.iret dX5_valueOf_20 rfl ?_
  refine fin1 k rfl ?_
  (repeat' split) <;> first | rfl | omega
def cpt (h : AH) (a b : Nat) (f x : Int) : AH := if 0 ≤ f ∧ f < 46 then sI h (a, b, 1) f.toNat x else h
theorem kX5_put {a b : Nat} {f x : Int} (W : StaW h a b) (k : Q (cpt h a b f x) (.inl none)) : AC mX5_put fX5_put loX5_put 0 0 h [vr (a, b, 0), vi f, vi x] Q := by
  refine AC.mk (by decide) (Nat.le_of_ble_eq_true rfl) ?_
  refine AW.iload_n dX5_put_0 rfl ?_
  refine AW.if_lt (tgt := 17) dX5_put_1 rfl (fun c_1 => ?_) (fun c_1 => ?_)
  · refine AW.vret dX5_put_17 rfl ?_
    refine fin0 k ?_
    unfold cpt
    first | rw [if_pos (by omega)] | rw [if_neg (by omega)]
  · refine AW.iload_n dX5_put_4 rfl ?_
    refine AW.bipush dX5_put_5 bp_46 (by decide) ?_
    refine AW.icmp_ge (tgt := 17) dX5_put_7 rfl (fun c_7 => ?_) (fun c_7 => ?_)
    · refine AW.vret dX5_put_17 rfl ?_
      refine fin0 k ?_
      unfold cpt
      first | rw [if_pos (by omega)] | rw [if_neg (by omega)]
    · refine AW.aload_n dX5_put_10 rfl ?_
      refine AW.getRE (j := 2) W.o dX5_put_11 lkX5_9 rfl rfl inC6 rfl W.r2 ?_
      refine AW.iload_n dX5_put_14 rfl ?_
      refine AW.iload_n dX5_put_15 rfl ?_
      refine AW.astI dX5_put_16 W.t2 (by omega) (by omega) ?_
      refine AW.vret dX5_put_17 rfl ?_
      refine fin0 k ?_
      unfold cpt
      first | rw [if_pos (by omega)] | rw [if_neg (by omega)]
theorem kX4_isSame {n m : Nm} {a b c d : Int} (hn : hT h n = some (20, 2)) (hm : hT h m = some (20, 2)) (ea : hI h n 0 = a) (eb : hI h n 1 = b) (ec : hI h m 0 = c) (ed : hI h m 1 = d) (k : Q h (.inl (some (vi (bz (a = c ∧ b = d)))))) : AC mX4_isSame fX4_isSame loX4_isSame 0 0 h [vr n, vr m] Q := by
  refine AC.mk (by decide) (Nat.le_of_ble_eq_true rfl) ?_
  refine AW.aload_n dX4_isSame_0 rfl ?_
  refine AW.iconst dX4_isSame_1 (by decide) ?_
  refine AW.aldIE dX4_isSame_2 hn (by decide) (by decide) (by exact ea) ?_
  refine AW.aload_n dX4_isSame_3 rfl ?_
  refine AW.iconst dX4_isSame_4 (by decide) ?_
  refine AW.aldIE dX4_isSame_5 hm (by decide) (by decide) (by exact ec) ?_
  refine' AW.icmp_neJ 23 (tgt := 22) dX4_isSame_6 rfl _ _ _
  rotate_left 2
  · intro c_6 k_6
    refine AW.iconst dX4_isSame_22 (by decide) ?_
    exact k_6
  · intro c_6 k_6
    refine AW.aload_n dX4_isSame_9 rfl ?_
    refine AW.iconst dX4_isSame_10 (by decide) ?_
    refine AW.aldIE dX4_isSame_11 hn (by decide) (by decide) (by exact eb) ?_
    refine AW.aload_n dX4_isSame_12 rfl ?_
    refine AW.iconst dX4_isSame_13 (by decide) ?_
    refine AW.aldIE dX4_isSame_14 hm (by decide) (by decide) (by exact ed) ?_
    refine' AW.icmp_neJ 23 (tgt := 22) dX4_isSame_15 rfl _ _ _
    rotate_left 2
    · intro c_15 k_15
      refine AW.iconst dX4_isSame_22 (by decide) ?_
      exact k_15
    · intro c_15 k_15
      refine AW.iconst dX4_isSame_18 (by decide) ?_
      refine AW.goto (tgt := 23) dX4_isSame_19 rfl ?_
      exact k_15
    exact k_6
  refine AW.zret dX4_isSame_23 rfl ?_ ?_
  · (repeat' split) <;> simp
  refine fin1 k rfl ?_
  unfold bz
  (repeat' split) <;> first | rfl | (simp_all; done)
/-- a pair taken out of the box -/
def cou (h : AH) (a b : Nat) (m : Nm) (e : Int) : AH := sI (sI (sI h (a, b, 2) e.toNat 0) m 0 (hI h (a, b, 3) (2 * e).toNat)) m 1 (hI h (a, b, 3) (2 * e + 1).toNat)
set_option maxHeartbeats 1000000 in
theorem kX5_takeOut {a b : Nat} {v sd : Int} {m : Nm} (W : StaW h a b) (hm : hT h m = some (20, 2)) (hne : Nat.beq a m.1 = false) (hv : 0 ≤ v ∧ v < 24) (hs : sd = 0 ∨ sd = 1)
    (k0 : hI h (a, b, 2) (2 * v + sd).toNat = 0 → Q h (.inl (some (vi 0)))) (k1 : ¬ hI h (a, b, 2) (2 * v + sd).toNat = 0 → Q (cou h a b m (2 * v + sd)) (.inl (some (vi 1)))) : AC mX5_takeOut fX5_takeOut loX5_takeOut 0 0 h [vr (a, b, 0), vi v, vi sd, vr m] Q := by
  refine AC.mk (by decide) (Nat.le_of_ble_eq_true rfl) ?_
  refine AW.iconst dX5_takeOut_0 (by decide) ?_
  refine AW.iload_n dX5_takeOut_1 rfl ?_
  refine AW.imulB dX5_takeOut_2 (by omega) ?_
  refine AW.iload_n dX5_takeOut_3 rfl ?_
  refine AW.iaddB dX5_takeOut_4 (by omega) ?_
  refine AW.istore dX5_takeOut_5 rfl ?_
  refine AW.iload dX5_takeOut_7 rfl ?_
  refine AW.if_lt (tgt := 32) dX5_takeOut_9 rfl (fun c_9 => ?_) (fun c_9 => ?_)
  · exact absurd c_9 (by omega)
  · refine AW.iload dX5_takeOut_12 rfl ?_
    refine AW.aload_n dX5_takeOut_14 rfl ?_
    refine AW.getRE (j := 3) W.o dX5_takeOut_15 lkX5_15 rfl rfl inC6 rfl W.r3 ?_
    refine AW.alen (t := 1) dX5_takeOut_18 W.t3 (by decide) (by decide) ?_
    refine AW.icmp_ge (tgt := 32) dX5_takeOut_19 rfl (fun c_19 => ?_) (fun c_19 => ?_)
    · exact absurd c_19 (by show ¬ ((48 : Nat) : Int) ≤ 2 * v + sd; omega)
    · refine AW.aload_n dX5_takeOut_22 rfl ?_
      refine AW.getRE (j := 3) W.o dX5_takeOut_23 lkX5_15 rfl rfl inC6 rfl W.r3 ?_
      refine AW.iload dX5_takeOut_26 rfl ?_
      refine AW.aldZE dX5_takeOut_28 W.t3 (by omega) (by omega) rfl ?_
      refine AW.if_ne (tgt := 34) dX5_takeOut_29 rfl (fun c_29 => ?_) (fun c_29 => ?_)
      · refine AW.aload_n dX5_takeOut_34 rfl ?_
        refine AW.getRE (j := 3) W.o dX5_takeOut_35 lkX5_15 rfl rfl inC6 rfl W.r3 ?_
        refine AW.iload dX5_takeOut_38 rfl ?_
        refine AW.iconst dX5_takeOut_40 (by decide) ?_
        refine AW.astZ dX5_takeOut_41 W.t3 (by omega) (by omega) (by exact Or.inl rfl) ?_
        refine AW.aload_n dX5_takeOut_42 rfl ?_
        refine AW.iconst dX5_takeOut_43 (by decide) ?_
        refine AW.aload_n dX5_takeOut_44 rfl ?_
        refine AW.getRE (j := 4) W.o dX5_takeOut_45 lkX5_19 rfl rfl inC6 rfl W.r4 ?_
        refine AW.iconst dX5_takeOut_48 (by decide) ?_
        refine AW.iload dX5_takeOut_49 rfl ?_
        refine AW.imulB dX5_takeOut_51 (by omega) ?_
        refine AW.aldIE dX5_takeOut_52 W.t4 (by omega) (by omega) (by exact hI_n3 rfl rfl) ?_
        refine AW.astI dX5_takeOut_53 hm (by omega) (by omega) ?_
        refine AW.aload_n dX5_takeOut_54 rfl ?_
        refine AW.iconst dX5_takeOut_55 (by decide) ?_
        refine AW.aload_n dX5_takeOut_56 rfl ?_
        refine AW.getRE (j := 4) W.o dX5_takeOut_57 lkX5_19 rfl rfl inC6 rfl W.r4 ?_
        refine AW.iconst dX5_takeOut_60 (by decide) ?_
        refine AW.iload dX5_takeOut_61 rfl ?_
        refine AW.imulB dX5_takeOut_63 (by omega) ?_
        refine AW.iconst dX5_takeOut_64 (by decide) ?_
        refine AW.iaddB dX5_takeOut_65 (by omega) ?_
        refine AW.pcs (pc2 := 66) rfl ?_
        refine AW.aldIE dX5_takeOut_66 W.t4 (by omega) (by omega) (by exact (hI_n1 hne (hI_n3 rfl rfl))) ?_
        refine AW.astI dX5_takeOut_67 hm (by omega) (by omega) ?_
        refine AW.iconst dX5_takeOut_68 (by decide) ?_
        refine AW.zret dX5_takeOut_69 rfl ?_ ?_
        · exact Or.inr rfl
        exact k1 (by assumption)
      · refine AW.iconst dX5_takeOut_32 (by decide) ?_
        refine AW.zret dX5_takeOut_33 rfl ?_ ?_
        · exact Or.inl rfl
        exact k0 (by assumption)
def caw (h : AH) (a b : Nat) (e x y : Int) : AH := sI (sI (sI h (a, b, 2) e.toNat 1) (a, b, 3) (2 * e).toNat x) (a, b, 3) (2 * e + 1).toNat y
theorem kX5_putAway {a b : Nat} {v sd x y : Int} {m : Nm} (W : StaW h a b) (hm : hT h m = some (20, 2)) (hne : Nat.beq m.1 a = false) (hv : 0 ≤ v ∧ v < 24) (hs : sd = 0 ∨ sd = 1) (ex : hI h m 0 = x) (ey : hI h m 1 = y)
    (k : Q (caw h a b (2 * v + sd) x y) (.inl none)) : AC mX5_putAway fX5_putAway loX5_putAway 0 0 h [vr (a, b, 0), vi v, vi sd, vr m] Q := by
  refine AC.mk (by decide) (Nat.le_of_ble_eq_true rfl) ?_
  refine AW.iconst dX5_putAway_0 (by decide) ?_
  refine AW.iload_n dX5_putAway_1 rfl ?_
  refine AW.imulB dX5_putAway_2 (by omega) ?_
  refine AW.iload_n dX5_putAway_3 rfl ?_
  refine AW.iaddB dX5_putAway_4 (by omega) ?_
  refine AW.istore dX5_putAway_5 rfl ?_
  refine AW.iload dX5_putAway_7 rfl ?_
  refine AW.if_lt (tgt := 56) dX5_putAway_9 rfl (fun c_9 => ?_) (fun c_9 => ?_)
  · exact absurd c_9 (by omega)
  · refine AW.iload dX5_putAway_12 rfl ?_
    refine AW.aload_n dX5_putAway_14 rfl ?_
    refine AW.getRE (j := 3) W.o dX5_putAway_15 lkX5_15 rfl rfl inC6 rfl W.r3 ?_
    refine AW.alen (t := 1) dX5_putAway_18 W.t3 (by decide) (by decide) ?_
    refine AW.icmp_ge (tgt := 56) dX5_putAway_19 rfl (fun c_19 => ?_) (fun c_19 => ?_)
    · exact absurd c_19 (by show ¬ ((48 : Nat) : Int) ≤ 2 * v + sd; omega)
    · refine AW.aload_n dX5_putAway_22 rfl ?_
      refine AW.getRE (j := 3) W.o dX5_putAway_23 lkX5_15 rfl rfl inC6 rfl W.r3 ?_
      refine AW.iload dX5_putAway_26 rfl ?_
      refine AW.iconst dX5_putAway_28 (by decide) ?_
      refine AW.astZ dX5_putAway_29 W.t3 (by omega) (by omega) (by exact Or.inr rfl) ?_
      refine AW.aload_n dX5_putAway_30 rfl ?_
      refine AW.getRE (j := 4) W.o dX5_putAway_31 lkX5_19 rfl rfl inC6 rfl W.r4 ?_
      refine AW.iconst dX5_putAway_34 (by decide) ?_
      refine AW.iload dX5_putAway_35 rfl ?_
      refine AW.imulB dX5_putAway_37 (by omega) ?_
      refine AW.aload_n dX5_putAway_38 rfl ?_
      refine AW.iconst dX5_putAway_39 (by decide) ?_
      refine AW.aldIE dX5_putAway_40 hm (by omega) (by omega) (by exact hI_n1 hne ex) ?_
      refine AW.astI dX5_putAway_41 W.t4 (by omega) (by omega) ?_
      refine AW.aload_n dX5_putAway_42 rfl ?_
      refine AW.getRE (j := 4) W.o dX5_putAway_43 lkX5_19 rfl rfl inC6 rfl W.r4 ?_
      refine AW.iconst dX5_putAway_46 (by decide) ?_
      refine AW.iload dX5_putAway_47 rfl ?_
      refine AW.imulB dX5_putAway_49 (by omega) ?_
      refine AW.iconst dX5_putAway_50 (by decide) ?_
      refine AW.iaddB dX5_putAway_51 (by omega) ?_
      refine AW.aload_n dX5_putAway_52 rfl ?_
      refine AW.iconst dX5_putAway_53 (by decide) ?_
      refine AW.pcs (pc2 := 54) rfl ?_
      refine AW.aldIE dX5_putAway_54 hm (by omega) (by omega) (by exact hI_n1 hne (hI_n1 hne ey)) ?_
      refine AW.astI dX5_putAway_55 W.t4 (by omega) (by omega) ?_
      refine AW.vret dX5_putAway_56 rfl ?_
      exact k
end C5

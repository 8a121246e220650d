/-! ===== the class: a state copied ===== -/
section C13
variable {Q : AH → AO → Prop} {h : AH} {a b c d : Nat}
def ccp0 (h : AH) (a b c d : Nat) : AH := sI (sI h (a, b, 0) 0 (hI h (c, d, 0) 0)) (a, b, 0) 1 (hI h (c, d, 0) 1)
def ccp (h : AH) (a b c d : Nat) : AH := cpI (cpI (cpI (ccp0 h a b c d) (c, d, 1) (a, b, 1) 46) (c, d, 2) (a, b, 2) 48) (c, d, 3) (a, b, 3) 96
theorem cpI_n1 {n x y : Nm} {len i : Nat} {v : Int} (hn : Nat.beq n.1 y.1 = false) (k : hI h n i = v) : hI (cpI h x y len) n i = v := by
  rw [hI_cpI, if_neg, k]
  rintro ⟨e, -⟩
  subst e
  simp at hn
theorem kX5_copyFrom (W : StaW h a b) (V : StaW h c d) (hne : Nat.beq c a = false) (hb : isB h (c, d, 2) 48) (k : Q (ccp h a b c d) (.inl none)) : AC mX5_copyFrom fX5_copyFrom loX5_copyFrom 0 0 h [vr (a, b, 0), vr (c, d, 0)] Q := by
  have hb2 : isB (cpI (ccp0 h a b c d) (c, d, 1) (a, b, 1) 46) (c, d, 2) 48 := by
    intro i hi
    have e : hI (cpI (ccp0 h a b c d) (c, d, 1) (a, b, 1) 46) (c, d, 2) i = hI h (c, d, 2) i := cpI_n1 hne (hI_n1 (m := (a, b, 0)) hne (hI_n1 (m := (a, b, 0)) hne rfl))
    rw [e]
    exact hb i hi
  refine AC.mk (by decide) (Nat.le_of_ble_eq_true rfl) ?_
  refine AW.aload_n dX5_copyFrom_0 rfl ?_
  refine AW.aload_n dX5_copyFrom_1 rfl ?_
  refine AW.getIE (j := 0) V.o dX5_copyFrom_2 lkX5_22 rfl rfl inC6 rfl rfl ?_
  refine AW.putI (j := 0) dX5_copyFrom_5 W.o rfl rfl inC6 lkX5_22 rfl (Or.inl rfl) (Or.inl rfl) ?_
  refine AW.aload_n dX5_copyFrom_8 rfl ?_
  refine AW.aload_n dX5_copyFrom_9 rfl ?_
  refine AW.getIE (j := 1) V.o dX5_copyFrom_10 lkX5_26 rfl rfl inC6 rfl (by exact hI_n1 hne rfl) ?_
  refine AW.putI (j := 1) dX5_copyFrom_13 W.o rfl rfl inC6 lkX5_26 rfl (Or.inl rfl) (Or.inl rfl) ?_
  refine AW.aload_n dX5_copyFrom_16 rfl ?_
  refine AW.getRE (j := 2) V.o dX5_copyFrom_17 lkX5_9 rfl rfl inC6 rfl V.r2 ?_
  refine AW.iconst dX5_copyFrom_20 (by decide) ?_
  refine AW.aload_n dX5_copyFrom_21 rfl ?_
  refine AW.getRE (j := 2) W.o dX5_copyFrom_22 lkX5_9 rfl rfl inC6 rfl W.r2 ?_
  refine AW.iconst dX5_copyFrom_25 (by decide) ?_
  refine AW.aload_n dX5_copyFrom_26 rfl ?_
  refine AW.getRE (j := 2) W.o dX5_copyFrom_27 lkX5_9 rfl rfl inC6 rfl W.r2 ?_
  refine AW.alen (t := 0) dX5_copyFrom_30 W.t2 (by decide) (by decide) ?_
  refine AW.acopy dX5_copyFrom_31 lkX5_29 ac1 ac2 iniSystem (t := 0) V.t2 W.t2 (by decide) (by intro z; exact absurd z (by decide)) (by decide) rfl rfl rfl ?_
  refine AW.aload_n dX5_copyFrom_34 rfl ?_
  refine AW.getRE (j := 3) V.o dX5_copyFrom_35 lkX5_15 rfl rfl inC6 rfl V.r3 ?_
  refine AW.iconst dX5_copyFrom_38 (by decide) ?_
  refine AW.aload_n dX5_copyFrom_39 rfl ?_
  refine AW.getRE (j := 3) W.o dX5_copyFrom_40 lkX5_15 rfl rfl inC6 rfl W.r3 ?_
  refine AW.pcs (pc2 := 43) rfl ?_
  refine AW.iconst dX5_copyFrom_43 (by decide) ?_
  refine AW.aload_n dX5_copyFrom_44 rfl ?_
  refine AW.getRE (j := 3) W.o dX5_copyFrom_45 lkX5_15 rfl rfl inC6 rfl W.r3 ?_
  refine AW.alen (t := 1) dX5_copyFrom_48 W.t3 (by decide) (by decide) ?_
  refine AW.acopy dX5_copyFrom_49 lkX5_29 ac1 ac2 iniSystem (t := 1) V.t3 W.t3 (by decide) (fun _ => hb2) (by decide) rfl rfl rfl ?_
  refine AW.aload_n dX5_copyFrom_52 rfl ?_
  refine AW.getRE (j := 4) V.o dX5_copyFrom_53 lkX5_19 rfl rfl inC6 rfl V.r4 ?_
  refine AW.iconst dX5_copyFrom_56 (by decide) ?_
  refine AW.aload_n dX5_copyFrom_57 rfl ?_
  refine AW.getRE (j := 4) W.o dX5_copyFrom_58 lkX5_19 rfl rfl inC6 rfl W.r4 ?_
  refine AW.iconst dX5_copyFrom_61 (by decide) ?_
  refine AW.aload_n dX5_copyFrom_62 rfl ?_
  refine AW.getRE (j := 4) W.o dX5_copyFrom_63 lkX5_19 rfl rfl inC6 rfl W.r4 ?_
  refine AW.alen (t := 0) dX5_copyFrom_66 W.t4 (by decide) (by decide) ?_
  refine AW.acopy dX5_copyFrom_67 lkX5_29 ac1 ac2 iniSystem (t := 0) V.t4 W.t4 (by decide) (by intro z; exact absurd z (by decide)) (by decide) rfl rfl rfl ?_
  refine AW.vret dX5_copyFrom_70 rfl ?_
  exact k
end C13

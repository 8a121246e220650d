/-! ===== the class: a move made ===== -/
section C18
variable {Q : AH → AO → Prop} {h : AH}
def cmv0 (h : AH) (m : Nat) (x y z : Int) : AH := sI (sI (sI h (11, m, 0) 0 x) (11, m, 0) 1 y) (11, m, 0) 2 z
theorem kX1_init {m : Nat} {x y z : Int} (h0 : hT h (11, m, 0) = some (2, 0)) (n0 : hT h (14, m, 0) = none) (n1 : hT h (14, m, 1) = none) (n2 : hT h (14, m, 2) = none) (n3 : hT h (14, m, 3) = none) (k : Q (sR (cst (aN (cmv0 h m x y z) (14, m, 0) 6 0) 14 m) (11, m, 0) 3 (some (14, m, 0))) (.inl none)) : AC mX1_init fX1_init loX1_init 4 195 h [vr (11, m, 0), vi x, vi y, vi z] Q := by
  have ne : ∀ i j, ¬ i = j → ¬ (14, m, i) = ((14, m, j) : Nm) := fun i j q e => q (by simpa using e)
  have o9 : hT (cst (aN (cmv0 h m x y z) (14, m, 0) 6 0) 14 m) (11, m, 0) = some (2, 0) := by
    rw [hT_cst]
    unfold cst3 cst2 cst1 cmv0
    simp [hT_aN, hT_sR, hT_sI, h0]
  refine AC.mk (by decide) (Nat.le_of_ble_eq_true rfl) ?_
  refine AW.aload_n dX1_init_0 rfl ?_
  refine AW.objInit dX1_init_1 lkX1_1 oi1 oi2 rfl rfl rfl ?_
  refine AW.aload_n dX1_init_4 rfl ?_
  refine AW.iload_n dX1_init_5 rfl ?_
  refine AW.putI (j := 0) dX1_init_6 h0 rfl rfl inC2 lkX1_7 rfl (Or.inr ⟨rfl, rfl, rfl⟩) (Or.inl rfl) ?_
  refine AW.aload_n dX1_init_9 rfl ?_
  refine AW.iload_n dX1_init_10 rfl ?_
  refine AW.putI (j := 1) dX1_init_11 h0 rfl rfl inC2 lkX1_13 rfl (Or.inr ⟨rfl, rfl, rfl⟩) (Or.inl rfl) ?_
  refine AW.aload_n dX1_init_14 rfl ?_
  refine AW.iload_n dX1_init_15 rfl ?_
  refine AW.putI (j := 2) dX1_init_16 h0 rfl rfl inC2 lkX1_16 rfl (Or.inr ⟨rfl, rfl, rfl⟩) (Or.inl rfl) ?_
  refine AW.aload_n dX1_init_19 rfl ?_
  refine AW.new (kc := 6) (14, m, 0) n0 dX1_init_20 rfl inC6 lkX1_19 insX5 iniX5 rfl rfl ?_
  refine AW.dup dX1_init_23 rfl ?_
  refine AW.callI (as := []) dX1_init_24 rfl rfl rfl okX5_init lkX1_21 rfl rfl rfl rfl rfl (kX5_init hT_new (hT_old (ne _ _ (by decide)) n1) (hT_old (ne _ _ (by decide)) n2) (hT_old (ne _ _ (by decide)) n3) (AW.k0 ?_))
  refine AW.putR (j := 3) dX1_init_27 o9 rfl rfl inC2 lkX1_22 rfl (Or.inr ⟨rfl, rfl, rfl⟩) ?_
  refine AW.vret dX1_init_30 rfl ?_
  exact k
end C18

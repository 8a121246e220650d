/-! ===== the class: rows and moves made ===== -/
section C17
variable {Q : AH → AO → Prop} {h : AH} {s : Nat}
theorem hT_cst {a b : Nat} : hT (cst h a b) = hT (cst3 h a b) := rfl
theorem kX3_init {r : Nat} (h0 : hT h (9, r, 0) = some (4, 0)) (n0 : hT h (13, r, 0) = none) (n1 : hT h (13, r, 1) = none) (n2 : hT h (13, r, 2) = none) (n3 : hT h (13, r, 3) = none) (k : Q (sI (sR (cst (aN (sR h (9, r, 0) 0 (some (4, s, 0))) (13, r, 0) 6 0) 13 r) (9, r, 0) 1 (some (13, r, 0))) (9, r, 0) 2 (-1)) (.inl none)) : AC mX3_init fX3_init loX3_init 4 195 h [vr (9, r, 0), vr (4, s, 0)] Q := by
  have ne : ∀ i j, ¬ i = j → ¬ (13, r, i) = ((13, r, j) : Nm) := fun i j q e => q (by simpa using e)
  have o9 : hT (cst (aN (sR h (9, r, 0) 0 (some (4, s, 0))) (13, r, 0) 6 0) 13 r) (9, r, 0) = some (4, 0) := by
    rw [hT_cst]
    unfold cst3 cst2 cst1
    simp [hT_aN, hT_sR, h0]
  refine AC.mk (by decide) (Nat.le_of_ble_eq_true rfl) ?_
  refine AW.aload_n dX3_init_0 rfl ?_
  refine AW.objInit dX3_init_1 lkX3_3 oi1 oi2 rfl rfl rfl ?_
  refine AW.aload_n dX3_init_4 rfl ?_
  refine AW.aload_n dX3_init_5 rfl ?_
  refine AW.putR (j := 0) dX3_init_6 h0 rfl rfl inC4 lkX3_9 rfl (Or.inr ⟨rfl, rfl, rfl⟩) ?_
  refine AW.aload_n dX3_init_9 rfl ?_
  refine AW.new (kc := 6) (13, r, 0) n0 dX3_init_10 rfl inC6 lkX3_15 insX5 iniX5 rfl rfl ?_
  refine AW.dup dX3_init_13 rfl ?_
  refine AW.callI (as := []) dX3_init_14 rfl rfl rfl okX5_init lkX3_17 rfl rfl rfl rfl rfl (kX5_init hT_new (hT_old (ne _ _ (by decide)) n1) (hT_old (ne _ _ (by decide)) n2) (hT_old (ne _ _ (by decide)) n3) (AW.k0 ?_))
  refine AW.putR (j := 1) dX3_init_17 o9 rfl rfl inC4 lkX3_18 rfl (Or.inr ⟨rfl, rfl, rfl⟩) ?_
  refine AW.aload_n dX3_init_20 rfl ?_
  refine AW.iconst dX3_init_21 (by decide) ?_
  refine AW.putI (j := 2) dX3_init_22 o9 rfl rfl inC4 lkX3_22 rfl (Or.inl rfl) (Or.inl rfl) ?_
  refine AW.vret dX3_init_25 rfl ?_
  exact k
end C17

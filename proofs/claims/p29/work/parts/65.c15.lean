/-! ===== the class: a state made ===== -/
section C15
variable {Q : AH → AO → Prop} {h : AH} {s a b : Nat}
def cst1 (h : AH) (a b : Nat) : AH := sR (aN h (a, b, 1) 20 46) (a, b, 0) 2 (some (a, b, 1))
def cst2 (h : AH) (a b : Nat) : AH := sR (aN (cst1 h a b) (a, b, 2) 21 48) (a, b, 0) 3 (some (a, b, 2))
def cst3 (h : AH) (a b : Nat) : AH := sR (aN (cst2 h a b) (a, b, 3) 20 96) (a, b, 0) 4 (some (a, b, 3))
def cst (h : AH) (a b : Nat) : AH := hfl (cst3 h a b) (a, b, 1) (fun _ => -1) 46
theorem cst3_S (h0 : hT h (a, b, 0) = some (6, 0)) : StaW (cst3 h a b) a b := by
  unfold StaW cst3 cst2 cst1
  simp [hT_aN, hT_sR, hR_aN, hR_sR, h0]
theorem cst_S (h0 : hT h (a, b, 0) = some (6, 0)) : StaW (cst h a b) a b := cst3_S h0
theorem kX5_init (h0 : hT h (a, b, 0) = some (6, 0)) (h1 : hT h (a, b, 1) = none) (h2 : hT h (a, b, 2) = none) (h3 : hT h (a, b, 3) = none) (k : Q (cst h a b) (.inl none)) : AC mX5_init fX5_init loX5_init 3 190 h [vr (a, b, 0)] Q := by
  have ne : ∀ i j, ¬ i = j → ¬ (a, b, i) = ((a, b, j) : Nm) := fun i j q e => q (by simpa using e)
  have a0 : hT (cst1 h a b) (a, b, 0) = some (6, 0) := hT_old (m := (a, b, 1)) (k := 20) (len := 46) (ne _ _ (by decide)) h0
  have a2 : hT (cst1 h a b) (a, b, 2) = none := hT_old (m := (a, b, 1)) (k := 20) (len := 46) (ne _ _ (by decide)) h2
  have a3 : hT (cst1 h a b) (a, b, 3) = none := hT_old (m := (a, b, 1)) (k := 20) (len := 46) (ne _ _ (by decide)) h3
  have b0 : hT (cst2 h a b) (a, b, 0) = some (6, 0) := hT_old (h := cst1 h a b) (m := (a, b, 2)) (k := 21) (len := 48) (ne _ _ (by decide)) a0
  have b3 : hT (cst2 h a b) (a, b, 3) = none := hT_old (h := cst1 h a b) (m := (a, b, 2)) (k := 21) (len := 48) (ne _ _ (by decide)) a3
  have W := cst3_S (b := b) h0
  refine AC.mk (by decide) (Nat.le_of_ble_eq_true rfl) ?_
  have lp : ∀ {bc bs : Nat}, ∀ (m i : Nat), i ≤ 46 → 46 ≤ i + m → AW mX5_init fX5_init loX5_init 3 190 Q bc bs 30 (hfl (cst3 h a b) (a, b, 1) (fun _ => -1) i) [(1, vi (i : Int)), (0, vr (a, b, 0))] [] := by
    intro bc bs m
    induction m with
    | zero =>
      intro i h1 h2
      have e : i = 46 := by omega
      subst e
      refine AW.iload_n dX5_init_30 rfl ?_
      refine AW.bipush dX5_init_31 bp_46 (by decide) ?_
      refine AW.icmp_ge (tgt := 49) dX5_init_33 rfl (fun c_33 => ?_) (fun c_33 => ?_)
      · refine AW.vret dX5_init_49 rfl ?_
        exact k
      · exact absurd c_33 (by omega)
    | succ m ih =>
      intro i h1 h2
      by_cases e : i = 46
      · exact ih i h1 (by omega)
      refine AW.iload_n dX5_init_30 rfl ?_
      refine AW.bipush dX5_init_31 bp_46 (by decide) ?_
      refine AW.icmp_ge (tgt := 49) dX5_init_33 rfl (fun c_33 => ?_) (fun c_33 => ?_)
      · exact absurd c_33 (by omega)
      · refine AW.aload_n dX5_init_36 rfl ?_
        refine AW.getRE (j := 2) W.o dX5_init_37 lkX5_9 rfl rfl inC6 rfl W.r2 ?_
        refine AW.iload_n dX5_init_40 rfl ?_
        refine AW.iconst dX5_init_41 (by decide) ?_
        refine AW.astI dX5_init_42 W.t2 (by omega) (by omega) ?_
        refine AW.iincB dX5_init_43 rfl rfl (by omega) ?_
        refine AW.goto (tgt := 30) dX5_init_46 rfl ?_
        exact AW.locs [(1, vi ((i + 1 : Nat) : Int)), (0, vr (a, b, 0))] ⟨rfl, rfl, trivial⟩ (AW.heq (hfl_step rfl rfl) (ih (i + 1) (by omega) (by omega)))
  refine AW.aload_n dX5_init_0 rfl ?_
  refine AW.objInit dX5_init_1 lkX5_3 oi1 oi2 rfl rfl rfl ?_
  refine AW.aload_n dX5_init_4 rfl ?_
  refine AW.bipush dX5_init_5 bp_46 (by decide) ?_
  refine AW.newa (t := 0) (N := 46) (a, b, 1) h1 dX5_init_7 (by decide) rfl arc_int rfl (by decide) (by decide) (by intro C e; cases e) rfl rfl ?_
  refine AW.putR (j := 2) dX5_init_9 (hT_old (ne _ _ (by decide)) h0) rfl rfl inC6 lkX5_9 rfl (Or.inr ⟨rfl, rfl, rfl⟩) ?_
  refine AW.heq (h2 := cst1 h a b) rfl ?_
  refine AW.aload_n dX5_init_12 rfl ?_
  refine AW.bipush dX5_init_13 bp_48 (by decide) ?_
  refine AW.newa (t := 1) (N := 48) (a, b, 2) a2 dX5_init_15 (by decide) rfl arc_boolean rfl (by decide) (by decide) (by intro C e; cases e) rfl rfl ?_
  refine AW.putR (j := 3) dX5_init_17 (hT_old (ne _ _ (by decide)) a0) rfl rfl inC6 lkX5_15 rfl (Or.inr ⟨rfl, rfl, rfl⟩) ?_
  refine AW.heq (h2 := cst2 h a b) rfl ?_
  refine AW.aload_n dX5_init_20 rfl ?_
  refine AW.bipush dX5_init_21 bp_96 (by decide) ?_
  refine AW.newa (t := 0) (N := 96) (a, b, 3) b3 dX5_init_23 (by decide) rfl arc_int rfl (by decide) (by decide) (by intro C e; cases e) rfl rfl ?_
  refine AW.putR (j := 4) dX5_init_25 (hT_old (ne _ _ (by decide)) b0) rfl rfl inC6 lkX5_19 rfl (Or.inr ⟨rfl, rfl, rfl⟩) ?_
  refine AW.heq (h2 := hfl (cst3 h a b) (a, b, 1) (fun _ => -1) 0) hfl_0.symm ?_
  refine AW.iconst dX5_init_28 (by decide) ?_
  refine AW.istore_n dX5_init_29 rfl ?_
  exact lp 46 0 (by omega) (by omega)
end C15

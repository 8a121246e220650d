/-! ===== the class: small constructors, the box's entries ===== -/
section C14
variable {Q : AH → AO → Prop} {h : AH} {s a b : Nat}
def cbxA (h : AH) (a b : Nat) : Nat → Int
  | 0 => 0
  | i + 1 => cbxA h a b i + (if hI h (a, b, 2) i = 0 then 0 else 1)
theorem cbxA_rng : ∀ i : Nat, 0 ≤ cbxA h a b i ∧ cbxA h a b i ≤ i
  | 0 => ⟨by show (0 : Int) ≤ 0; omega, by show (0 : Int) ≤ 0; omega⟩
  | i + 1 => by
    have := cbxA_rng i
    unfold cbxA; split <;> omega
theorem kX5_boxEntries (W : StaW h a b) (k : Q h (.inl (some (vi (cbxA h a b 48))))) : AC mX5_boxEntries fX5_boxEntries loX5_boxEntries 0 0 h [vr (a, b, 0)] Q := by
  refine AC.mk (by decide) (Nat.le_of_ble_eq_true rfl) ?_
  have lp : ∀ (m i : Nat), i ≤ 48 → 48 ≤ i + m → AW mX5_boxEntries fX5_boxEntries loX5_boxEntries 0 0 Q 0 0 4 h [(2, vi (i : Int)), (1, vi (cbxA h a b i)), (0, vr (a, b, 0))] [] := by
    intro m
    induction m with
    | zero =>
      intro i h1 h2
      have e : i = 48 := by omega
      subst e
      refine AW.iload_n dX5_boxEntries_4 rfl ?_
      refine AW.aload_n dX5_boxEntries_5 rfl ?_
      refine AW.getRE (j := 3) W.o dX5_boxEntries_6 lkX5_15 rfl rfl inC6 rfl W.r3 ?_
      refine AW.alen (t := 1) dX5_boxEntries_9 W.t3 (by decide) (by decide) ?_
      refine AW.icmp_ge (tgt := 36) dX5_boxEntries_10 rfl (fun c_10 => ?_) (fun c_10 => ?_)
      · refine AW.iload_n dX5_boxEntries_36 rfl ?_
        refine AW.iret dX5_boxEntries_37 rfl ?_
        exact k
      · exact absurd c_10 (by show ¬ ((48 : Nat) : Int) < ((48 : Nat) : Int); omega)
    | succ m ih =>
      intro i h1 h2
      by_cases e : i = 48
      · exact ih i h1 (by omega)
      have hr := cbxA_rng (h := h) (a := a) (b := b) i
      refine AW.iload_n dX5_boxEntries_4 rfl ?_
      refine AW.aload_n dX5_boxEntries_5 rfl ?_
      refine AW.getRE (j := 3) W.o dX5_boxEntries_6 lkX5_15 rfl rfl inC6 rfl W.r3 ?_
      refine AW.alen (t := 1) dX5_boxEntries_9 W.t3 (by decide) (by decide) ?_
      refine AW.icmp_ge (tgt := 36) dX5_boxEntries_10 rfl (fun c_10 => ?_) (fun c_10 => ?_)
      · exact absurd c_10 (by show ¬ ((48 : Nat) : Int) ≤ (i : Int); omega)
      · refine AW.iload_n dX5_boxEntries_13 rfl ?_
        refine AW.aload_n dX5_boxEntries_14 rfl ?_
        refine AW.getRE (j := 3) W.o dX5_boxEntries_15 lkX5_15 rfl rfl inC6 rfl W.r3 ?_
        refine AW.iload_n dX5_boxEntries_18 rfl ?_
        refine AW.aldZE dX5_boxEntries_19 W.t3 (by omega) (by omega) rfl ?_
        refine' AW.if_eqJ 28 (tgt := 27) dX5_boxEntries_20 rfl _ _ _
        rotate_left 2
        · intro c_20 k_20
          refine AW.iconst dX5_boxEntries_27 (by decide) ?_
          exact k_20
        · intro c_20 k_20
          refine AW.iconst dX5_boxEntries_23 (by decide) ?_
          refine AW.goto (tgt := 28) dX5_boxEntries_24 rfl ?_
          exact k_20
        refine AW.iaddB dX5_boxEntries_28 (by split <;> omega) (AW.top (y := cbxA h a b (i + 1)) (by rw [cbxA]; rfl) ?_)
        refine AW.istore_n dX5_boxEntries_29 rfl ?_
        refine AW.iincB dX5_boxEntries_30 rfl rfl (by omega) ?_
        refine AW.goto (tgt := 4) dX5_boxEntries_33 rfl ?_
        exact AW.locs [(2, vi ((i + 1 : Nat) : Int)), (1, vi (cbxA h a b (i + 1))), (0, vr (a, b, 0))] ⟨rfl, rfl, rfl, trivial⟩ (ih (i + 1) (by omega) (by omega))
  refine AW.iconst dX5_boxEntries_0 (by decide) ?_
  refine AW.istore_n dX5_boxEntries_1 rfl ?_
  refine AW.iconst dX5_boxEntries_2 (by decide) ?_
  refine AW.istore_n dX5_boxEntries_3 rfl ?_
  exact lp 48 0 (by omega) (by omega)
theorem kX2_init {m : Nat} {t : Int} (h0 : hT h (10, m, 0) = some (3, 0)) (k : Q (sI (sI (sR h (10, m, 0) 0 (some (4, s, 0))) (10, m, 0) 1 t) (10, m, 0) 2 (-1)) (.inl none)) : AC mX2_init fX2_init loX2_init 0 0 h [vr (10, m, 0), vr (4, s, 0), vi t] Q := by
  refine AC.mk (by decide) (Nat.le_of_ble_eq_true rfl) ?_
  refine AW.aload_n dX2_init_0 rfl ?_
  refine AW.objInit dX2_init_1 lkX2_3 oi1 oi2 rfl rfl rfl ?_
  refine AW.aload_n dX2_init_4 rfl ?_
  refine AW.aload_n dX2_init_5 rfl ?_
  refine AW.putR (j := 0) dX2_init_6 h0 rfl rfl inC3 lkX2_9 rfl (Or.inr ⟨rfl, rfl, rfl⟩) ?_
  refine AW.aload_n dX2_init_9 rfl ?_
  refine AW.iload_n dX2_init_10 rfl ?_
  refine AW.putI (j := 1) dX2_init_11 h0 rfl rfl inC3 lkX2_15 rfl (Or.inr ⟨rfl, rfl, rfl⟩) (Or.inl rfl) ?_
  refine AW.aload_n dX2_init_14 rfl ?_
  refine AW.iconst dX2_init_15 (by decide) ?_
  refine AW.putI (j := 2) dX2_init_16 h0 rfl rfl inC3 lkX2_19 rfl (Or.inl rfl) (Or.inl rfl) ?_
  refine AW.vret dX2_init_19 rfl ?_
  exact k
end C14

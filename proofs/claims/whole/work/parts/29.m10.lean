/-! ===== the model: what a form holds ===== -/
section M10
variable {Q : AH → AO → Prop} {h : AH} {Z : ZT}
def zheA (Z : ZT) (g : Int) : Nat → Int
  | 0 => 0
  | i + 1 => zheA Z g i + (if Z 17 (48 * g + (i : Int)).toNat = 0 then 0 else 1)
theorem zheA_rng {g : Int} : ∀ i : Nat, 0 ≤ zheA Z g i ∧ zheA Z g i ≤ i
  | 0 => ⟨by show (0 : Int) ≤ 0; omega, by show (0 : Int) ≤ 0; omega⟩
  | i + 1 => by
    have := zheA_rng (g := g) i
    unfold zheA; split <;> omega
theorem kX8_held {g : Int} (W : WfM h) (hg : 0 ≤ g ∧ g < 8) (k : Q (mput h Z) (.inl (some (vi (zheA Z g 48))))) : AC mX8_held fX8_held loX8_held 0 0 (mput h Z) [vr mO, vi g] Q := by
  refine AC.mk (by decide) (Nat.le_of_ble_eq_true rfl) ?_
  have lp : ∀ (m i : Nat), i ≤ 48 → 48 ≤ i + m → AW mX8_held fX8_held loX8_held 0 0 Q 0 0 4 (mput h Z) [(3, vi (i : Int)), (2, vi (zheA Z g i)), (0, vr mO), (1, vi g)] [] := by
    intro m
    induction m with
    | zero =>
      intro i h1 h2
      have e : i = 48 := by omega
      subst e
      refine AW.iload_n dX8_held_4 rfl ?_
      refine AW.bipush dX8_held_5 bp_48 (by decide) ?_
      refine AW.icmp_ge (tgt := 38) dX8_held_7 rfl (fun c_7 => ?_) (fun c_7 => ?_)
      · refine AW.iload_n dX8_held_38 rfl ?_
        refine AW.iret dX8_held_39 rfl ?_
        exact k
      · exact absurd c_7 (by omega)
    | succ m ih =>
      intro i h1 h2
      by_cases e : i = 48
      · exact ih i h1 (by omega)
      have hr := zheA_rng (Z := Z) (g := g) i
      refine AW.iload_n dX8_held_4 rfl ?_
      refine AW.bipush dX8_held_5 bp_48 (by decide) ?_
      refine AW.icmp_ge (tgt := 38) dX8_held_7 rfl (fun c_7 => ?_) (fun c_7 => ?_)
      · exact absurd c_7 (by omega)
      · refine AW.iload_n dX8_held_10 rfl ?_
        refine AW.aload_n dX8_held_11 rfl ?_
        refine AW.mA 17 W dX8_held_12 lkX8_56 rfl rfl ?_
        refine AW.bipush dX8_held_15 bp_48 (by decide) ?_
        refine AW.iload_n dX8_held_17 rfl ?_
        refine AW.imulB dX8_held_18 (by omega) ?_
        refine AW.iload_n dX8_held_19 rfl ?_
        refine AW.iaddB dX8_held_20 (by omega) ?_
        refine AW.mldZE (j := 17) W dX8_held_21 rfl rfl (by simp only [mlen]; omega) rfl ?_
        refine' AW.if_eqJ 30 (tgt := 29) dX8_held_22 rfl _ _ _
        rotate_left 2
        · intro c_22 k_22
          refine AW.iconst dX8_held_29 (by decide) ?_
          exact k_22
        · intro c_22 k_22
          refine AW.iconst dX8_held_25 (by decide) ?_
          refine AW.goto (tgt := 30) dX8_held_26 rfl ?_
          exact k_22
        refine AW.iaddB dX8_held_30 (by split <;> omega) (AW.top (y := zheA Z g (i + 1)) (by rw [zheA]) ?_)
        refine AW.istore_n dX8_held_31 rfl ?_
        refine AW.iincB dX8_held_32 rfl rfl (by omega) ?_
        refine AW.goto (tgt := 4) dX8_held_35 rfl ?_
        exact AW.locs [(3, vi ((i + 1 : Nat) : Int)), (2, vi (zheA Z g (i + 1))), (0, vr mO), (1, vi g)] ⟨rfl, rfl, rfl, rfl, trivial⟩ (ih (i + 1) (by omega) (by omega))
  refine AW.iconst dX8_held_0 (by decide) ?_
  refine AW.istore_n dX8_held_1 rfl ?_
  refine AW.iconst dX8_held_2 (by decide) ?_
  refine AW.istore_n dX8_held_3 rfl ?_
  exact lp 48 0 (by omega) (by omega)
def zca (t : Nat → Int) : Nat → Int
  | 0 => 0
  | i + 1 => bz (¬ zca t i = 0 ∨ ¬ t i = 0)
def zcb (Z : ZT) (s : Int) (t : Nat → Int) : Nat → Int
  | 0 => 0
  | i + 1 => bz (¬ zcb Z s t i = 0 ∨ (¬ t i = 0 ∧ ¬ zwt Z s (i : Int) = 0))
def zct (Z : ZT) (g f : Int) : Int :=
  bz (¬ zca (zTr Z (Z 14 g.toNat) (Z 15 g.toNat) f) (Z 2 (Z 14 g.toNat).toNat).toNat = 0 ∧ zcb Z (Z 14 g.toNat) (zTr Z (Z 14 g.toNat) (Z 15 g.toNat) f) (Z 2 (Z 14 g.toNat).toNat).toNat = 0)
theorem zwA_c {Z' : ZT} {s f : Int} (e : Z' 12 = Z 12) : ∀ k, zwA Z' s f k = zwA Z s f k
  | 0 => rfl
  | k + 1 => by unfold zwA; rw [e, zwA_c e k]
theorem zwt_c {Z' : ZT} {s f : Int} (e : Z' 12 = Z 12) (e2 : Z' 11 = Z 11) : zwt Z' s f = zwt Z s f := by
  unfold zwt; rw [zwA_c e, e2]
set_option maxHeartbeats 1000000 in
theorem kX8_canTake {g f : Int} {t : Nat → Int} (W : WfM h) (B : BI Z) (F : flg t) (hg : 0 ≤ g ∧ g < 8) (hf : 0 ≤ f ∧ f < 48) (k : ∀ t, flg t → Q (mput h (zrow Z 46 t)) (.inl (some (vi (zct Z g f))))) : AC mX8_canTake fX8_canTake loX8_canTake 0 0 (mput h (zrow Z 46 t)) [vr mO, vi g, vi f] Q := by
  have b := B.2.2.2.1.2 g.toNat (by omega)
  have bs := B.1.2 (Z 14 g.toNat).toNat (by omega)
  refine AC.mk (by decide) (Nat.le_of_ble_eq_true rfl) ?_
  have lp : ∀ (m i : Nat) t, flg t → agr t (zTr Z (Z 14 g.toNat) (Z 15 g.toNat) f) → (i : Int) ≤ Z 2 (Z 14 g.toNat).toNat → Z 2 (Z 14 g.toNat).toNat ≤ i + m → AW mX8_canTake fX8_canTake loX8_canTake 0 0 Q 0 0 28 (mput h (zrow Z 46 t)) [(6, vi (i : Int)), (5, vi (zcb Z (Z 14 g.toNat) (zTr Z (Z 14 g.toNat) (Z 15 g.toNat) f) i)), (4, vi (zca (zTr Z (Z 14 g.toNat) (Z 15 g.toNat) f) i)), (3, vi (Z 14 g.toNat)), (0, vr mO), (1, vi g), (2, vi f)] [] := by
    intro m
    induction m with
    | zero =>
      intro i t F A h1 h2
      have e : (Z 2 (Z 14 g.toNat).toNat).toNat = i := by omega
      refine AW.iload dX8_canTake_28 rfl ?_
      refine AW.aload_n dX8_canTake_30 rfl ?_
      refine AW.mA 2 W dX8_canTake_31 lkX8_13 rfl rfl ?_
      refine AW.iload_n dX8_canTake_34 rfl ?_
      refine AW.mldE (j := 2) W dX8_canTake_35 rfl rfl (by simp only [mlen]; omega) (by (repeat first | apply zs_ne rfl | apply zs_eq (by omega) | apply zs_miss (by omega) | apply zrow_ne rfl); exact rfl) ?_
      refine AW.icmp_ge (tgt := 99) dX8_canTake_36 rfl (fun c_36 => ?_) (fun c_36 => ?_)
      · refine AW.iload dX8_canTake_99 rfl ?_
        refine' AW.if_eqJ 114 (tgt := 113) dX8_canTake_101 rfl _ _ _
        rotate_left 2
        · intro c_101 k_101
          refine AW.iconst dX8_canTake_113 (by decide) ?_
          exact k_101
        · intro c_101 k_101
          refine AW.iload dX8_canTake_104 rfl ?_
          refine' AW.if_neJ 114 (tgt := 113) dX8_canTake_106 rfl _ _ _
          rotate_left 2
          · intro c_106 k_106
            refine AW.iconst dX8_canTake_113 (by decide) ?_
            exact k_106
          · intro c_106 k_106
            refine AW.iconst dX8_canTake_109 (by decide) ?_
            refine AW.goto (tgt := 114) dX8_canTake_110 rfl ?_
            exact k_106
          exact k_101
        refine AW.zret dX8_canTake_114 rfl ?_ ?_
        · (repeat' split) <;> simp
        refine finZ (k t F) rfl ?_
        unfold zct
        rw [e]
        unfold bz
        (repeat' split) <;> simp_all
      · exact absurd c_36 (by omega)
    | succ m ih =>
      intro i t F A h1 h2
      by_cases e : Z 2 (Z 14 g.toNat).toNat = (i : Int)
      · exact ih i t F A h1 (by omega)
      refine AW.iload dX8_canTake_28 rfl ?_
      refine AW.aload_n dX8_canTake_30 rfl ?_
      refine AW.mA 2 W dX8_canTake_31 lkX8_13 rfl rfl ?_
      refine AW.iload_n dX8_canTake_34 rfl ?_
      refine AW.mldE (j := 2) W dX8_canTake_35 rfl rfl (by simp only [mlen]; omega) (by (repeat first | apply zs_ne rfl | apply zs_eq (by omega) | apply zs_miss (by omega) | apply zrow_ne rfl); exact rfl) ?_
      refine AW.icmp_ge (tgt := 99) dX8_canTake_36 rfl (fun c_36 => ?_) (fun c_36 => ?_)
      · exact absurd c_36 (by omega)
      · refine AW.iload dX8_canTake_39 rfl ?_
        refine' AW.if_neJ 59 (tgt := 54) dX8_canTake_41 rfl _ _ _
        rotate_left 2
        · intro c_41 k_41
          refine AW.iconst dX8_canTake_54 (by decide) ?_
          refine AW.goto (tgt := 59) dX8_canTake_55 rfl ?_
          exact k_41
        · intro c_41 k_41
          refine AW.aload_n dX8_canTake_44 rfl ?_
          refine AW.mA 46 W dX8_canTake_45 lkX8_131 rfl rfl ?_
          refine AW.iload dX8_canTake_48 rfl ?_
          refine AW.mldZE (j := 46) W dX8_canTake_50 rfl rfl (by simp only [mlen]; omega) (by exact zrow_e (A i (by omega))) ?_
          refine' AW.if_eqJ 59 (tgt := 58) dX8_canTake_51 rfl _ _ _
          rotate_left 2
          · intro c_51 k_51
            refine AW.iconst dX8_canTake_58 (by decide) ?_
            exact k_51
          · intro c_51 k_51
            refine AW.iconst dX8_canTake_54 (by decide) ?_
            refine AW.goto (tgt := 59) dX8_canTake_55 rfl ?_
            exact k_51
          exact k_41
        refine AW.top (y := zca (zTr Z (Z 14 g.toNat) (Z 15 g.toNat) f) (i + 1)) (by simp only [zca]; unfold bz; (repeat' split) <;> simp_all) ?_
        refine AW.istore dX8_canTake_59 rfl ?_
        refine AW.iload dX8_canTake_61 rfl ?_
        refine' AW.if_neJ 91 (tgt := 86) dX8_canTake_63 rfl _ _ _
        rotate_left 2
        · intro c_63 k_63
          refine AW.iconst dX8_canTake_86 (by decide) ?_
          refine AW.goto (tgt := 91) dX8_canTake_87 rfl ?_
          exact k_63
        · intro c_63 k_63
          refine AW.aload_n dX8_canTake_66 rfl ?_
          refine AW.mA 46 W dX8_canTake_67 lkX8_131 rfl rfl ?_
          refine AW.iload dX8_canTake_70 rfl ?_
          refine AW.mldZE (j := 46) W dX8_canTake_72 rfl rfl (by simp only [mlen]; omega) (by exact zrow_e (A i (by omega))) ?_
          refine' AW.if_eqJ 91 (tgt := 90) dX8_canTake_73 rfl _ _ _
          rotate_left 2
          · intro c_73 k_73
            refine AW.iconst dX8_canTake_90 (by decide) ?_
            exact k_73
          · intro c_73 k_73
            refine AW.aload_n dX8_canTake_76 rfl ?_
            refine AW.iload_n dX8_canTake_77 rfl ?_
            refine AW.iload dX8_canTake_78 rfl ?_
            refine AW.callV (as := [vi _, vi _]) dX8_canTake_80 rfl rfl rfl okX8_isWaiting lkX8_183 W.1 rfl rfl rfl rfl rfl rfl rfl (kX8_isWaiting W (by omega) (show 0 ≤ Z 11 (Z 14 g.toNat).toNat ∧ Z 11 (Z 14 g.toNat).toNat ≤ 48 by omega) ((zwt_c (Z' := zrow Z 46 t) rfl rfl).symm ▸ (AW.k1 ?_)))
            refine' AW.if_eqJ 91 (tgt := 90) dX8_canTake_83 rfl _ _ _
            rotate_left 2
            · intro c_83 k_83
              refine AW.iconst dX8_canTake_90 (by decide) ?_
              exact k_83
            · intro c_83 k_83
              refine AW.iconst dX8_canTake_86 (by decide) ?_
              refine AW.goto (tgt := 91) dX8_canTake_87 rfl ?_
              exact k_83
            exact k_73
          exact k_63
        refine AW.top (y := zcb Z (Z 14 g.toNat) (zTr Z (Z 14 g.toNat) (Z 15 g.toNat) f) (i + 1)) (by simp only [zcb, zwt_c (Z' := zrow Z 46 t) (Z := Z) rfl rfl]; unfold bz; (repeat' split) <;> simp_all) ?_
        refine AW.istore dX8_canTake_91 rfl ?_
        refine AW.iincB dX8_canTake_93 rfl rfl (by omega) ?_
        refine AW.goto (tgt := 28) dX8_canTake_96 rfl ?_
        exact AW.locs [(6, vi ((i + 1 : Nat) : Int)), (5, vi (zcb Z (Z 14 g.toNat) (zTr Z (Z 14 g.toNat) (Z 15 g.toNat) f) (i + 1))), (4, vi (zca (zTr Z (Z 14 g.toNat) (Z 15 g.toNat) f) (i + 1))), (3, vi (Z 14 g.toNat)), (0, vr mO), (1, vi g), (2, vi f)] ⟨rfl, rfl, rfl, rfl, rfl, rfl, rfl, trivial⟩ (ih (i + 1) t F A (by omega) (by omega))
  refine AW.aload_n dX8_canTake_0 rfl ?_
  refine AW.mA 14 W dX8_canTake_1 lkX8_47 rfl rfl ?_
  refine AW.iload_n dX8_canTake_4 rfl ?_
  refine AW.mldE (j := 14) W dX8_canTake_5 rfl rfl (by simp only [mlen]; omega) (by (repeat first | apply zs_ne rfl | apply zs_eq (by omega) | apply zs_miss (by omega) | apply zrow_ne rfl); exact rfl) ?_
  refine AW.istore_n dX8_canTake_6 rfl ?_
  refine AW.aload_n dX8_canTake_7 rfl ?_
  refine AW.iload_n dX8_canTake_8 rfl ?_
  refine AW.aload_n dX8_canTake_9 rfl ?_
  refine AW.mA 15 W dX8_canTake_10 lkX8_50 rfl rfl ?_
  refine AW.iload_n dX8_canTake_13 rfl ?_
  refine AW.mldE (j := 15) W dX8_canTake_14 rfl rfl (by simp only [mlen]; omega) (by (repeat first | apply zs_ne rfl | apply zs_eq (by omega) | apply zs_miss (by omega) | apply zrow_ne rfl); exact rfl) ?_
  refine AW.iload_n dX8_canTake_15 rfl ?_
  refine AW.callV (as := [vi _, vi _, vi _]) dX8_canTake_16 rfl rfl rfl okX8_traces lkX8_235 W.1 rfl rfl rfl rfl rfl rfl rfl (kX8_traces W B.2.2.1 F (by omega) (by omega) (by omega) (fun t2 F2 A2 => (AW.k0 ?_)))
  refine AW.iconst dX8_canTake_19 (by decide) ?_
  refine AW.istore dX8_canTake_20 rfl ?_
  refine AW.iconst dX8_canTake_22 (by decide) ?_
  refine AW.istore dX8_canTake_23 rfl ?_
  refine AW.iconst dX8_canTake_25 (by decide) ?_
  refine AW.istore dX8_canTake_26 rfl ?_
  exact lp (Z 2 (Z 14 g.toNat).toNat).toNat 0 t2 F2 A2 (by omega) (by omega)
end M10

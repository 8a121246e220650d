/-! ===== the model: what holds a field up ===== -/
section M6
variable {Q : AH → AO → Prop} {h : AH} {Z : ZT}
def flg (t : Nat → Int) : Prop := ∀ q, t q = 0 ∨ t q = 1
def agr (t t' : Nat → Int) : Prop := ∀ q : Nat, q < 48 → t q = t' q
/-- bounds of the forms -/
def BG (Z : ZT) : Prop := (0 ≤ Z 13 0 ∧ Z 13 0 ≤ 8) ∧ ∀ g : Nat, g < 8 → 0 ≤ Z 14 g ∧ Z 14 g < 4 ∧ 0 ≤ Z 15 g ∧ Z 15 g ≤ Z 1 (Z 14 g).toNat
theorem zh0_01 {f0 : Int} {t : Nat → Int} : zh0 f0 t = 0 ∨ zh0 f0 t = 1 := bz01 _
theorem zt1_flg {f0 : Int} {t : Nat → Int} (F : flg t) : flg (zt1 f0 t) := by
  intro q; unfold zt1 tset; split
  · exact F q
  · dsimp only; split
    · exact Or.inl rfl
    · exact F q
theorem ztb_flg {f0 b : Int} {t : Nat → Int} (F : flg t) : flg (ztb f0 b t) := by
  intro q; unfold ztb tset; split
  · exact F q
  · dsimp only; split
    · exact Or.inr rfl
    · exact F q
theorem zfs_flg {p : Int} {t : Nat → Int} (F : flg t) : flg (zfs Z p t) := by
  unfold zfs; split
  · exact ztb_flg (ztb_flg (zt1_flg (zt1_flg F)))
  · exact F
theorem zfo_flg {s a : Int} {t : Nat → Int} (F : flg t) : ∀ n, flg (zfo Z s a t n)
  | 0 => F
  | n + 1 => zfs_flg (zfo_flg F n)
theorem zh0_agr {f0 : Int} {t t' : Nat → Int} (hf : -1 ≤ f0 ∧ f0 < 48) (A : agr t t') : zh0 f0 t = zh0 f0 t' := by
  unfold zh0
  by_cases e : f0 = -1
  · simp [e]
  · rw [A f0.toNat (by omega)]
theorem tset_agr {i v : Int} {t t' : Nat → Int} (A : agr t t') : agr (tset t i v) (tset t' i v) := by
  intro q hq; unfold tset; split
  · rfl
  · exact A q hq
theorem zt1_agr {f0 : Int} {t t' : Nat → Int} (A : agr t t') : agr (zt1 f0 t) (zt1 f0 t') := by
  unfold zt1; split
  · exact A
  · exact tset_agr A
theorem zh1_agr {f0 f1 : Int} {t t' : Nat → Int} (hf : -1 ≤ f0 ∧ f0 < 48) (hf1 : -1 ≤ f1 ∧ f1 < 48) (A : agr t t') : zh1 f0 f1 t = zh1 f0 f1 t' := by
  unfold zh1
  rw [zh0_agr hf A, zh0_agr hf1 (zt1_agr A)]
theorem ztb_agr {f0 b : Int} {t t' : Nat → Int} (A : agr t t') : agr (ztb f0 b t) (ztb f0 b t') := by
  unfold ztb; split
  · exact A
  · exact tset_agr A
theorem zfs_agr {p : Int} {t t' : Nat → Int} (B : BB Z) (A : agr t t') : agr (zfs Z p t) (zfs Z p t') := by
  unfold zfs; split
  · rw [zh1_agr (B _).1 (B _).1 A]
    exact ztb_agr (ztb_agr (zt1_agr (zt1_agr A)))
  · exact A
theorem zfo_agr {s a : Int} {t t' : Nat → Int} (B : BB Z) (A : agr t t') : ∀ n, agr (zfo Z s a t n) (zfo Z s a t' n)
  | 0 => A
  | n + 1 => zfs_agr B (zfo_agr B A n)
def zup (t0 t1 : Nat → Int) (i : Nat) : Nat → Int := fun q => if q < i then t1 q else t0 q
theorem zup_0 {t0 t1 : Nat → Int} : zup t0 t1 0 = t0 := by funext q; unfold zup; rw [if_neg (by omega)]
theorem zup_step {t0 t1 : Nat → Int} {j i q : Nat} {v : Int} (hq : q = i) (hv : v = t1 i) : zs (zrow Z j (zup t0 t1 i)) j q v = zrow Z j (zup t0 t1 (i + 1)) := by
  subst hq; subst hv
  rw [zs_zrow]
  congr 1
  funext x
  unfold zup
  by_cases e : x = q
  · subst e; rw [if_pos rfl, if_pos (by omega)]
  · rw [if_neg e]
    by_cases e2 : x < q
    · rw [if_pos e2, if_pos (by omega)]
    · rw [if_neg e2, if_neg (by omega)]
theorem zup_agr {t0 t1 : Nat → Int} : agr (zup t0 t1 48) t1 := by intro q hq; unfold zup; rw [if_pos hq]
theorem zup_flg {t0 t1 : Nat → Int} {i : Nat} (F0 : flg t0) (F1 : flg t1) : flg (zup t0 t1 i) := by
  intro q; unfold zup; split
  · exact F1 q
  · exact F0 q
def zTr (Z : ZT) (s a f : Int) : Nat → Int := zfo Z s a (fun q => bz ((q : Int) = f)) (Z 1 s.toNat - a).toNat
def zTo0 (Z : ZT) (g w : Int) : Nat → Int := fun q => bz (¬ Z 17 (48 * g + (q : Int)).toNat = 0 ∧ (w = 0 ∨ ¬ Z 18 (48 * g + (q : Int)).toNat = 0))
def zTo (Z : ZT) (g w : Int) : Nat → Int := zfo Z (Z 14 g.toNat) (Z 15 g.toNat) (zTo0 Z g w) (Z 1 (Z 14 g.toNat).toNat - Z 15 g.toNat).toNat
theorem kX8_traces {s a f : Int} {t : Nat → Int} (W : WfM h) (B : BB Z) (F : flg t) (hs : 0 ≤ s ∧ s < 4) (ha : 0 ≤ a) (b1 : a ≤ Z 1 s.toNat ∧ Z 1 s.toNat ≤ 23) (k : ∀ t', flg t' → agr t' (zTr Z s a f) → Q (mput h (zrow Z 46 t')) (.inl none)) : AC mX8_traces fX8_traces loX8_traces 0 0 (mput h (zrow Z 46 t)) [vr mO, vi s, vi a, vi f] Q := by
  refine AC.mk (by decide) (Nat.le_of_ble_eq_true rfl) ?_
  have lp : ∀ (m i : Nat), i ≤ 48 → 48 ≤ i + m → AW mX8_traces fX8_traces loX8_traces 0 0 Q 0 0 3 (mput h (zrow Z 46 (zup t (fun q => bz ((q : Int) = f)) i))) [(4, vi (i : Int)), (0, vr mO), (1, vi s), (2, vi a), (3, vi f)] [] := by
    intro m
    induction m with
    | zero =>
      intro i h1 h2
      have e : i = 48 := by omega
      subst e
      refine AW.iload dX8_traces_3 rfl ?_
      refine AW.bipush dX8_traces_5 bp_48 (by decide) ?_
      refine AW.icmp_ge (tgt := 34) dX8_traces_7 rfl (fun c_7 => ?_) (fun c_7 => ?_)
      · refine AW.aload_n dX8_traces_34 rfl ?_
        refine AW.iload_n dX8_traces_35 rfl ?_
        refine AW.iload_n dX8_traces_36 rfl ?_
        refine AW.callV (as := [vi _, vi _]) dX8_traces_37 rfl rfl rfl okX8_follows lkX8_203 W.1 rfl rfl rfl rfl rfl rfl rfl (kX8_follows W B hs ha b1 (AW.k0 ?_))
        refine AW.vret dX8_traces_40 rfl ?_
        exact k _ (zfo_flg (zup_flg F (fun q => bz01 _)) _) (zfo_agr B zup_agr _)
      · exact absurd c_7 (by omega)
    | succ m ih =>
      intro i h1 h2
      by_cases e : i = 48
      · exact ih i h1 (by omega)
      refine AW.iload dX8_traces_3 rfl ?_
      refine AW.bipush dX8_traces_5 bp_48 (by decide) ?_
      refine AW.icmp_ge (tgt := 34) dX8_traces_7 rfl (fun c_7 => ?_) (fun c_7 => ?_)
      · exact absurd c_7 (by omega)
      · refine AW.aload_n dX8_traces_10 rfl ?_
        refine AW.mA 46 W dX8_traces_11 lkX8_131 rfl rfl ?_
        refine AW.iload dX8_traces_14 rfl ?_
        refine AW.iload dX8_traces_16 rfl ?_
        refine AW.iload_n dX8_traces_18 rfl ?_
        refine' AW.icmp_neJ 27 (tgt := 26) dX8_traces_19 rfl _ _ _
        rotate_left 2
        · intro c_19 k_19
          refine AW.iconst dX8_traces_26 (by decide) ?_
          exact k_19
        · intro c_19 k_19
          refine AW.iconst dX8_traces_22 (by decide) ?_
          refine AW.goto (tgt := 27) dX8_traces_23 rfl ?_
          exact k_19
        refine AW.top (y := bz ((i : Int) = f)) (by unfold bz; (repeat' split) <;> simp_all) ?_
        refine AW.mstZ (j := 46) W dX8_traces_27 rfl rfl (by simp only [mlen]; omega) (by exact bz01 _) ?_
        refine AW.iincB dX8_traces_28 rfl rfl (by omega) ?_
        refine AW.goto (tgt := 3) dX8_traces_31 rfl ?_
        refine AW.locs [(4, vi ((i + 1 : Nat) : Int)), (0, vr mO), (1, vi s), (2, vi a), (3, vi f)] ⟨rfl, rfl, rfl, rfl, rfl, trivial⟩ (AW.mZ ?_ (ih (i + 1) (by omega) (by omega)))
        exact zup_step rfl rfl
  refine AW.iconst dX8_traces_0 (by decide) ?_
  refine AW.istore dX8_traces_1 rfl ?_
  refine AW.mZ ?_ (lp 48 0 (by omega) (by omega))
  rw [zup_0]
set_option maxHeartbeats 1000000 in
theorem kX8_tracesOf {g w : Int} {t : Nat → Int} (W : WfM h) (B : BB Z) (S : BS Z) (G : BG Z) (F : flg t) (hg : 0 ≤ g ∧ g < 8) (k : ∀ t', flg t' → agr t' (zTo Z g w) → Q (mput h (zrow Z 46 t')) (.inl none)) : AC mX8_tracesOf fX8_tracesOf loX8_tracesOf 0 0 (mput h (zrow Z 46 t)) [vr mO, vi g, vi w] Q := by
  have b := G.2 g.toNat (by omega)
  have bs := S.2 (Z 14 g.toNat).toNat (by omega)
  refine AC.mk (by decide) (Nat.le_of_ble_eq_true rfl) ?_
  have lp : ∀ (m i : Nat), i ≤ 48 → 48 ≤ i + m → AW mX8_tracesOf fX8_tracesOf loX8_tracesOf 0 0 Q 0 0 2 (mput h (zrow Z 46 (zup t (zTo0 Z g w) i))) [(3, vi (i : Int)), (0, vr mO), (1, vi g), (2, vi w)] [] := by
    intro m
    induction m with
    | zero =>
      intro i h1 h2
      have e : i = 48 := by omega
      subst e
      refine AW.iload_n dX8_tracesOf_2 rfl ?_
      refine AW.bipush dX8_tracesOf_3 bp_48 (by decide) ?_
      refine AW.icmp_ge (tgt := 57) dX8_tracesOf_5 rfl (fun c_5 => ?_) (fun c_5 => ?_)
      · refine AW.aload_n dX8_tracesOf_57 rfl ?_
        refine AW.aload_n dX8_tracesOf_58 rfl ?_
        refine AW.mA 14 W dX8_tracesOf_59 lkX8_47 rfl rfl ?_
        refine AW.iload_n dX8_tracesOf_62 rfl ?_
        refine AW.mldE (j := 14) W dX8_tracesOf_63 rfl rfl (by simp only [mlen]; omega) (by (repeat first | apply zs_ne rfl | apply zs_eq (by omega) | apply zs_miss (by omega) | apply zrow_ne rfl); exact rfl) ?_
        refine AW.aload_n dX8_tracesOf_64 rfl ?_
        refine AW.mA 15 W dX8_tracesOf_65 lkX8_50 rfl rfl ?_
        refine AW.iload_n dX8_tracesOf_68 rfl ?_
        refine AW.mldE (j := 15) W dX8_tracesOf_69 rfl rfl (by simp only [mlen]; omega) (by (repeat first | apply zs_ne rfl | apply zs_eq (by omega) | apply zs_miss (by omega) | apply zrow_ne rfl); exact rfl) ?_
        refine AW.callV (as := [vi _, vi _]) dX8_tracesOf_70 rfl rfl rfl okX8_follows lkX8_203 W.1 rfl rfl rfl rfl rfl rfl rfl (kX8_follows W B (by omega) (by omega) (by omega) (AW.k0 ?_))
        refine AW.vret dX8_tracesOf_73 rfl ?_
        exact k _ (zfo_flg (zup_flg F (fun q => bz01 _)) _) (zfo_agr B zup_agr _)
      · exact absurd c_5 (by omega)
    | succ m ih =>
      intro i h1 h2
      by_cases e : i = 48
      · exact ih i h1 (by omega)
      refine AW.iload_n dX8_tracesOf_2 rfl ?_
      refine AW.bipush dX8_tracesOf_3 bp_48 (by decide) ?_
      refine AW.icmp_ge (tgt := 57) dX8_tracesOf_5 rfl (fun c_5 => ?_) (fun c_5 => ?_)
      · exact absurd c_5 (by omega)
      · refine AW.aload_n dX8_tracesOf_8 rfl ?_
        refine AW.mA 46 W dX8_tracesOf_9 lkX8_131 rfl rfl ?_
        refine AW.iload_n dX8_tracesOf_12 rfl ?_
        refine AW.aload_n dX8_tracesOf_13 rfl ?_
        refine AW.mA 17 W dX8_tracesOf_14 lkX8_56 rfl rfl ?_
        refine AW.bipush dX8_tracesOf_17 bp_48 (by decide) ?_
        refine AW.iload_n dX8_tracesOf_19 rfl ?_
        refine AW.imulB dX8_tracesOf_20 (by omega) ?_
        refine AW.iload_n dX8_tracesOf_21 rfl ?_
        refine AW.iaddB dX8_tracesOf_22 (by omega) ?_
        refine AW.mldZE (j := 17) W dX8_tracesOf_23 rfl rfl (by simp only [mlen]; omega) (by (repeat first | apply zs_ne rfl | apply zs_eq (by omega) | apply zs_miss (by omega) | apply zrow_ne rfl); exact rfl) ?_
        refine' AW.if_eqJ 50 (tgt := 49) dX8_tracesOf_24 rfl _ _ _
        rotate_left 2
        · intro c_24 k_24
          refine AW.iconst dX8_tracesOf_49 (by decide) ?_
          exact k_24
        · intro c_24 k_24
          refine AW.iload_n dX8_tracesOf_27 rfl ?_
          refine' AW.if_eqJ 50 (tgt := 45) dX8_tracesOf_28 rfl _ _ _
          rotate_left 2
          · intro c_28 k_28
            refine AW.iconst dX8_tracesOf_45 (by decide) ?_
            refine AW.goto (tgt := 50) dX8_tracesOf_46 rfl ?_
            exact k_28
          · intro c_28 k_28
            refine AW.aload_n dX8_tracesOf_31 rfl ?_
            refine AW.mA 18 W dX8_tracesOf_32 lkX8_59 rfl rfl ?_
            refine AW.bipush dX8_tracesOf_35 bp_48 (by decide) ?_
            refine AW.iload_n dX8_tracesOf_37 rfl ?_
            refine AW.imulB dX8_tracesOf_38 (by omega) ?_
            refine AW.iload_n dX8_tracesOf_39 rfl ?_
            refine AW.iaddB dX8_tracesOf_40 (by omega) ?_
            refine AW.mldZE (j := 18) W dX8_tracesOf_41 rfl rfl (by simp only [mlen]; omega) (by (repeat first | apply zs_ne rfl | apply zs_eq (by omega) | apply zs_miss (by omega) | apply zrow_ne rfl); exact rfl) ?_
            refine' AW.if_eqJ 50 (tgt := 49) dX8_tracesOf_42 rfl _ _ _
            rotate_left 2
            · intro c_42 k_42
              refine AW.iconst dX8_tracesOf_49 (by decide) ?_
              exact k_42
            · intro c_42 k_42
              refine AW.iconst dX8_tracesOf_45 (by decide) ?_
              refine AW.goto (tgt := 50) dX8_tracesOf_46 rfl ?_
              exact k_42
            exact k_28
          exact k_24
        refine AW.top (y := zTo0 Z g w i) (by unfold zTo0 bz; (repeat' split) <;> simp_all) ?_
        refine AW.mstZ (j := 46) W dX8_tracesOf_50 rfl rfl (by simp only [mlen]; omega) (by exact bz01 _) ?_
        refine AW.iincB dX8_tracesOf_51 rfl rfl (by omega) ?_
        refine AW.goto (tgt := 2) dX8_tracesOf_54 rfl ?_
        refine AW.locs [(3, vi ((i + 1 : Nat) : Int)), (0, vr mO), (1, vi g), (2, vi w)] ⟨rfl, rfl, rfl, rfl, trivial⟩ (AW.mZ ?_ (ih (i + 1) (by omega) (by omega)))
        exact zup_step rfl rfl
  refine AW.iconst dX8_tracesOf_0 (by decide) ?_
  refine AW.istore_n dX8_tracesOf_1 rfl ?_
  refine AW.mZ ?_ (lp 48 0 (by omega) (by omega))
  rw [zup_0]
/-- whether a form holds the field f of the head of s up -/
def zhuA (Z : ZT) (s f : Int) : Nat → Int
  | 0 => 0
  | g + 1 => if Z 14 g = s ∧ Z 16 g = 0 then bz (¬ zhuA Z s f g = 0 ∨ ¬ zTo Z (g : Int) 0 f.toNat = 0) else zhuA Z s f g
def zhu (Z : ZT) (s f : Int) : Int := zhuA Z s f (Z 13 0).toNat
theorem zhuA_01 {s f : Int} : ∀ g, zhuA Z s f g = 0 ∨ zhuA Z s f g = 1
  | 0 => Or.inl rfl
  | g + 1 => by unfold zhuA; split; exact bz01 _; exact zhuA_01 g
theorem kX8_isHeldUp {s f : Int} {t : Nat → Int} (W : WfM h) (B : BB Z) (S : BS Z) (G : BG Z) (F : flg t) (hs : 0 ≤ s ∧ s < 4) (hf : 0 ≤ f ∧ f < 48) (k : ∀ t', flg t' → Q (mput h (zrow Z 46 t')) (.inl (some (vi (zhu Z s f))))) : AC mX8_isHeldUp fX8_isHeldUp loX8_isHeldUp 0 0 (mput h (zrow Z 46 t)) [vr mO, vi s, vi f] Q := by
  have b0 := G.1
  refine AC.mk (by decide) (Nat.le_of_ble_eq_true rfl) ?_
  have lp : ∀ (m i : Nat) t, flg t → (i : Int) ≤ Z 13 0 → Z 13 0 ≤ i + m → AW mX8_isHeldUp fX8_isHeldUp loX8_isHeldUp 0 0 Q 0 0 5 (mput h (zrow Z 46 t)) [(4, vi (i : Int)), (3, vi (zhuA Z s f i)), (0, vr mO), (1, vi s), (2, vi f)] [] := by
    intro m
    induction m with
    | zero =>
      intro i t F h1 h2
      refine AW.iload dX8_isHeldUp_5 rfl ?_
      refine AW.aload_n dX8_isHeldUp_7 rfl ?_
      refine AW.mSE 13 W dX8_isHeldUp_8 lkX8_206 rfl rfl (by (repeat first | apply zs_ne rfl | apply zs_eq (by omega) | apply zs_miss (by omega) | apply zrow_ne rfl); exact rfl) ?_
      refine AW.icmp_ge (tgt := 67) dX8_isHeldUp_11 rfl (fun c_11 => ?_) (fun c_11 => ?_)
      · refine AW.iload_n dX8_isHeldUp_67 rfl ?_
        refine AW.zret dX8_isHeldUp_68 rfl ?_ ?_
        · exact zhuA_01 i
        have e : (Z 13 0).toNat = i := by omega
        have k := k t F
        unfold zhu at k
        rw [e] at k
        exact k
      · exact absurd c_11 (by omega)
    | succ m ih =>
      intro i t F h1 h2
      by_cases e : Z 13 0 = (i : Int)
      · exact ih i t F h1 (by omega)
      have b := G.2 i (by omega)
      refine AW.iload dX8_isHeldUp_5 rfl ?_
      refine AW.aload_n dX8_isHeldUp_7 rfl ?_
      refine AW.mSE 13 W dX8_isHeldUp_8 lkX8_206 rfl rfl (by (repeat first | apply zs_ne rfl | apply zs_eq (by omega) | apply zs_miss (by omega) | apply zrow_e | apply zrow_ne rfl); exact rfl) ?_
      refine AW.icmp_ge (tgt := 67) dX8_isHeldUp_11 rfl (fun c_11 => ?_) (fun c_11 => ?_)
      · exact absurd c_11 (by omega)
      · refine AW.aload_n dX8_isHeldUp_14 rfl ?_
        refine AW.mA 14 W dX8_isHeldUp_15 lkX8_47 rfl rfl ?_
        refine AW.iload dX8_isHeldUp_18 rfl ?_
        refine AW.mldE (j := 14) W dX8_isHeldUp_20 rfl rfl (by simp only [mlen]; omega) (by (repeat first | apply zs_ne rfl | apply zs_eq (by omega) | apply zs_miss (by omega) | apply zrow_e | apply zrow_ne rfl); exact rfl) ?_
        refine AW.iload_n dX8_isHeldUp_21 rfl ?_
        refine AW.icmp_ne (tgt := 61) dX8_isHeldUp_22 rfl (fun c_22 => ?_) (fun c_22 => ?_)
        · refine AW.iincB dX8_isHeldUp_61 rfl rfl (by omega) ?_
          refine AW.goto (tgt := 5) dX8_isHeldUp_64 rfl ?_
          refine AW.locs [(4, vi ((i + 1 : Nat) : Int)), (3, vi (zhuA Z s f (i + 1))), (0, vr mO), (1, vi s), (2, vi f)] ⟨rfl, ?_, rfl, rfl, rfl, trivial⟩ (ih (i + 1) _ (by assumption) (by omega) (by omega))
          show some (vi _) = some (vi _)
          congr 2
          simp only [zhuA, bz]
          (repeat' split) <;> simp_all
        · refine AW.aload_n dX8_isHeldUp_25 rfl ?_
          refine AW.mA 16 W dX8_isHeldUp_26 lkX8_53 rfl rfl ?_
          refine AW.iload dX8_isHeldUp_29 rfl ?_
          refine AW.mldZE (j := 16) W dX8_isHeldUp_31 rfl rfl (by simp only [mlen]; omega) (by (repeat first | apply zs_ne rfl | apply zs_eq (by omega) | apply zs_miss (by omega) | apply zrow_e | apply zrow_ne rfl); exact rfl) ?_
          refine AW.if_ne (tgt := 61) dX8_isHeldUp_32 rfl (fun c_32 => ?_) (fun c_32 => ?_)
          · refine AW.iincB dX8_isHeldUp_61 rfl rfl (by omega) ?_
            refine AW.goto (tgt := 5) dX8_isHeldUp_64 rfl ?_
            refine AW.locs [(4, vi ((i + 1 : Nat) : Int)), (3, vi (zhuA Z s f (i + 1))), (0, vr mO), (1, vi s), (2, vi f)] ⟨rfl, ?_, rfl, rfl, rfl, trivial⟩ (ih (i + 1) _ (by assumption) (by omega) (by omega))
            show some (vi _) = some (vi _)
            congr 2
            simp only [zhuA, bz]
            (repeat' split) <;> simp_all
          · refine AW.aload_n dX8_isHeldUp_35 rfl ?_
            refine AW.iload dX8_isHeldUp_36 rfl ?_
            refine AW.iconst dX8_isHeldUp_38 (by decide) ?_
            refine AW.callV (as := [vi _, vi _]) dX8_isHeldUp_39 rfl rfl rfl okX8_tracesOf lkX8_209 W.1 rfl rfl rfl rfl rfl rfl rfl (kX8_tracesOf W B S G F (by omega) (fun t2 F2 A2 => (AW.k0 ?_)))
            refine AW.iload_n dX8_isHeldUp_42 rfl ?_
            refine' AW.if_neJ 60 (tgt := 55) dX8_isHeldUp_43 rfl _ _ _
            rotate_left 2
            · intro c_43 k_43
              refine AW.iconst dX8_isHeldUp_55 (by decide) ?_
              refine AW.goto (tgt := 60) dX8_isHeldUp_56 rfl ?_
              exact k_43
            · intro c_43 k_43
              refine AW.aload_n dX8_isHeldUp_46 rfl ?_
              refine AW.mA 46 W dX8_isHeldUp_47 lkX8_131 rfl rfl ?_
              refine AW.iload_n dX8_isHeldUp_50 rfl ?_
              refine AW.mldZE (j := 46) W dX8_isHeldUp_51 rfl rfl (by simp only [mlen]; omega) (by exact zrow_e (A2 f.toNat (by omega))) ?_
              refine' AW.if_eqJ 60 (tgt := 59) dX8_isHeldUp_52 rfl _ _ _
              rotate_left 2
              · intro c_52 k_52
                refine AW.iconst dX8_isHeldUp_59 (by decide) ?_
                exact k_52
              · intro c_52 k_52
                refine AW.iconst dX8_isHeldUp_55 (by decide) ?_
                refine AW.goto (tgt := 60) dX8_isHeldUp_56 rfl ?_
                exact k_52
              exact k_43
            refine AW.istore_n dX8_isHeldUp_60 rfl ?_
            refine AW.iincB dX8_isHeldUp_61 rfl rfl (by omega) ?_
            refine AW.goto (tgt := 5) dX8_isHeldUp_64 rfl ?_
            refine AW.locs [(4, vi ((i + 1 : Nat) : Int)), (3, vi (zhuA Z s f (i + 1))), (0, vr mO), (1, vi s), (2, vi f)] ⟨rfl, ?_, rfl, rfl, rfl, trivial⟩ (ih (i + 1) _ (by assumption) (by omega) (by omega))
            show some (vi _) = some (vi _)
            congr 2
            simp only [zhuA, bz]
            (repeat' split) <;> simp_all
  refine AW.iconst dX8_isHeldUp_0 (by decide) ?_
  refine AW.istore_n dX8_isHeldUp_1 rfl ?_
  refine AW.iconst dX8_isHeldUp_2 (by decide) ?_
  refine AW.istore dX8_isHeldUp_3 rfl ?_
  exact lp 8 0 t F (by omega) (by omega)
end M6

/-! ===== the model: take, letGo, retire, renew ===== -/
section M11
variable {Q : AH → AO → Prop} {h : AH} {Z : ZT}
def zcTak (Z : ZT) (g n : Int) : Int := cd2 (zinF Z g n = -1) (¬ Z 16 g.toNat = 0 ∨ zct Z g (zinF Z g n) = 0)
def zTak (Z : ZT) (g n w : Int) : ZT := zs (zs (zs Z 48 0 0) 17 (48 * g + zinF Z g n).toNat 1) 18 (48 * g + zinF Z g n).toNat w
theorem zheA_c {Z' : ZT} {g : Int} (e : Z' 17 = Z 17) : ∀ k, zheA Z' g k = zheA Z g k
  | 0 => rfl
  | k + 1 => by unfold zheA; rw [e, zheA_c e k]
theorem zinF_c {Z' : ZT} {g n : Int} (e : Z' 5 = Z 5) (e2 : Z' 2 = Z 2) (e3 : Z' 13 = Z 13) (e4 : Z' 14 = Z 14) (e5 : Z' 15 = Z 15) : zinF Z' g n = zinF Z g n := by
  unfold zinF; rw [e3, e4, e5, zfind_c e e2]
set_option maxHeartbeats 1000000 in
theorem kX8_take {g n w : Int} (W : WfM h) (B : BI Z) (hw : w = 0 ∨ w = 1) (kE : 0 < zcTak Z g n → ∀ t, flg t → Q (mput h (zrow (zs Z 48 0 (zcTak Z g n)) 46 t)) (.inl (some (vi 0))))
    (kO : zcTak Z g n = 0 → ∀ t, flg t → Q (mput h (zrow (zTak Z g n w) 46 t)) (.inl (some (vi (zheA (zTak Z g n w) g 48))))) : AC mX8_take fX8_take loX8_take 0 0 (mput h Z) [vr mO, vi g, vi n, vi w] Q := by
  have hR := zinF_rng B (g := g) (n := n)
  refine AC.mk (by decide) (Nat.le_of_ble_eq_true rfl) ?_
  have tail : ∀ t x, flg t → x = zcTak Z g n → AW mX8_take fX8_take loX8_take 0 0 Q 0 0 43 (mput h (zrow Z 46 t)) [(4, vi (zinF Z g n)), (0, vr mO), (1, vi g), (2, vi n), (3, vi w)] [vi x, vr mO] := by
    intro t x F ex
    subst ex
    refine AW.callV (as := [vi _]) dX8_take_43 rfl rfl rfl okX8_fails lkX8_162 W.1 rfl rfl rfl rfl rfl rfl rfl (kX8_fails W (AW.k1 ?_))
    refine AW.if_eq (tgt := 51) dX8_take_46 rfl (fun c_46 => ?_) (fun c_46 => ?_)
    · have c := bz_0.mp c_46
      have e : zcTak Z g n = 0 := by unfold zcTak cd2 at *; (repeat' split at c) <;> omega
      obtain ⟨c1, c2⟩ := cd2_0.mp c
      have hR := hR.resolve_left c1
      rw [e]
      refine AW.mZ (zs_zrow_c rfl) ?_
      refine AW.aload_n dX8_take_51 rfl ?_
      refine AW.mA 17 W dX8_take_52 lkX8_56 rfl rfl ?_
      refine AW.bipush dX8_take_55 bp_48 (by decide) ?_
      refine AW.iload_n dX8_take_57 rfl ?_
      refine AW.imulB dX8_take_58 (by omega) ?_
      refine AW.iload dX8_take_59 rfl ?_
      refine AW.iaddB dX8_take_61 (by omega) ?_
      refine AW.iconst dX8_take_62 (by decide) ?_
      refine AW.mstZ (j := 17) W dX8_take_63 rfl rfl (by simp only [mlen]; omega) (by omega) ?_
      refine AW.aload_n dX8_take_64 rfl ?_
      refine AW.mA 18 W dX8_take_65 lkX8_59 rfl rfl ?_
      refine AW.bipush dX8_take_68 bp_48 (by decide) ?_
      refine AW.iload_n dX8_take_70 rfl ?_
      refine AW.imulB dX8_take_71 (by omega) ?_
      refine AW.iload dX8_take_72 rfl ?_
      refine AW.iaddB dX8_take_74 (by omega) ?_
      refine AW.iload_n dX8_take_75 rfl ?_
      refine AW.mstZ (j := 18) W dX8_take_76 rfl rfl (by simp only [mlen]; omega) (by omega) ?_
      refine AW.mZ (show _ = zrow (zTak Z g n w) 46 t by rw [zs_zrow_c rfl, zs_zrow_c rfl]; rfl) ?_
      refine AW.aload_n dX8_take_77 rfl ?_
      refine AW.iload_n dX8_take_78 rfl ?_
      refine AW.callV (as := [vi _]) dX8_take_79 rfl rfl rfl okX8_held lkX8_245 W.1 rfl rfl rfl rfl rfl rfl rfl (kX8_held W (by omega) (AW.k1 ?_))
      refine AW.top (zheA_c rfl 48) ?_
      refine AW.iret dX8_take_82 rfl ?_
      exact kO e t F
    · refine AW.iconst dX8_take_49 (by decide) ?_
      refine AW.iret dX8_take_50 rfl ?_
      have c := bz_n0.mp c_46
      exact finZ (kE c t F) (zs_zrow_c rfl) rfl
  refine AW.mZ (zrow_self (j := 46)).symm ?_
  have F0 : flg (Z 46) := B.2.1 46 rfl
  refine AW.aload_n dX8_take_0 rfl ?_
  refine AW.iload_n dX8_take_1 rfl ?_
  refine AW.iload_n dX8_take_2 rfl ?_
  refine AW.callV (as := [vi _, vi _]) dX8_take_3 rfl rfl rfl okX8_inForm lkX8_239 W.1 rfl rfl rfl rfl rfl rfl rfl (kX8_inForm W (BI_zrow B F0) (AW.k1 ?_))
  refine AW.top (y := zinF Z g n) (zinF_c rfl rfl rfl rfl rfl) ?_
  refine AW.istore dX8_take_6 rfl ?_
  refine AW.aload_n dX8_take_8 rfl ?_
  refine AW.iload dX8_take_9 rfl ?_
  refine AW.iconst dX8_take_11 (by decide) ?_
  refine AW.icmp_ne (tgt := 19) dX8_take_12 rfl (fun c_12 => ?_) (fun c_12 => ?_)
  · have hR2 := hR.resolve_left c_12
    refine AW.aload_n dX8_take_19 rfl ?_
    refine AW.mA 16 W dX8_take_20 lkX8_53 rfl rfl ?_
    refine AW.iload_n dX8_take_23 rfl ?_
    refine AW.mldZE (j := 16) W dX8_take_24 rfl rfl (by simp only [mlen]; omega) (by (repeat first | apply zs_ne rfl | apply zs_eq (by omega) | apply zs_miss (by omega) | apply zrow_ne rfl); exact rfl) ?_
    refine AW.if_ne (tgt := 38) dX8_take_25 rfl (fun c_25 => ?_) (fun c_25 => ?_)
    · refine AW.iconst dX8_take_38 (by decide) ?_
      refine AW.goto (tgt := 43) dX8_take_39 rfl ?_
      refine AW.locs [(4, vi (zinF Z g n)), (0, vr mO), (1, vi g), (2, vi n), (3, vi w)] ⟨rfl, rfl, rfl, rfl, rfl, trivial⟩ (tail _ _ (by assumption) ?_)
      clear hR
      unfold zcTak cd2
      (repeat' split) <;> simp_all
    · refine AW.aload_n dX8_take_28 rfl ?_
      refine AW.iload_n dX8_take_29 rfl ?_
      refine AW.iload dX8_take_30 rfl ?_
      refine AW.callV (as := [vi _, vi _]) dX8_take_32 rfl rfl rfl okX8_canTake lkX8_242 W.1 rfl rfl rfl rfl rfl rfl rfl (kX8_canTake W B F0 (by omega) (by omega) (fun t2 F2 => (AW.k1 ?_)))
      refine' AW.if_neJ 43 (tgt := 42) dX8_take_35 rfl _ _ _
      rotate_left 2
      · intro c_35 k_35
        refine AW.iconst dX8_take_42 (by decide) ?_
        exact k_35
      · intro c_35 k_35
        refine AW.iconst dX8_take_38 (by decide) ?_
        refine AW.goto (tgt := 43) dX8_take_39 rfl ?_
        exact k_35
      refine AW.locs [(4, vi (zinF Z g n)), (0, vr mO), (1, vi g), (2, vi n), (3, vi w)] ⟨rfl, rfl, rfl, rfl, rfl, trivial⟩ (tail _ _ (by assumption) ?_)
      clear hR
      unfold zcTak cd2
      (repeat' split) <;> simp_all
  · refine AW.iconst dX8_take_15 (by decide) ?_
    refine AW.goto (tgt := 43) dX8_take_16 rfl ?_
    refine AW.locs [(4, vi (zinF Z g n)), (0, vr mO), (1, vi g), (2, vi n), (3, vi w)] ⟨rfl, rfl, rfl, rfl, rfl, trivial⟩ (tail _ _ (by assumption) ?_)
    clear hR
    unfold zcTak cd2
    (repeat' split) <;> simp_all
theorem kX8_isHeld {g f : Int} (W : WfM h) (hg : ¬ f = -1 → 0 ≤ g ∧ g < 8) (hf : -1 ≤ f ∧ f < 48) (k : Q (mput h Z) (.inl (some (vi (bz (¬ f = -1 ∧ ¬ Z 17 (48 * g + f).toNat = 0)))))) : AC mX8_isHeld fX8_isHeld loX8_isHeld 0 0 (mput h Z) [vr mO, vi g, vi f] Q := by
  refine AC.mk (by decide) (Nat.le_of_ble_eq_true rfl) ?_
  refine AW.iload_n dX8_isHeld_0 rfl ?_
  refine AW.iconst dX8_isHeld_1 (by decide) ?_
  refine' AW.icmp_eqJ 24 (tgt := 23) dX8_isHeld_2 rfl _ _ _
  rotate_left 2
  · intro c_2 k_2
    refine AW.iconst dX8_isHeld_23 (by decide) ?_
    exact k_2
  · intro c_2 k_2
    have hg := hg c_2
    refine AW.aload_n dX8_isHeld_5 rfl ?_
    refine AW.mA 17 W dX8_isHeld_6 lkX8_56 rfl rfl ?_
    refine AW.bipush dX8_isHeld_9 bp_48 (by decide) ?_
    refine AW.iload_n dX8_isHeld_11 rfl ?_
    refine AW.imulB dX8_isHeld_12 (by omega) ?_
    refine AW.iload_n dX8_isHeld_13 rfl ?_
    refine AW.iaddB dX8_isHeld_14 (by omega) ?_
    refine AW.mldZE (j := 17) W dX8_isHeld_15 rfl rfl (by simp only [mlen]; omega) rfl ?_
    refine' AW.if_eqJ 24 (tgt := 23) dX8_isHeld_16 rfl _ _ _
    rotate_left 2
    · intro c_16 k_16
      refine AW.iconst dX8_isHeld_23 (by decide) ?_
      exact k_16
    · intro c_16 k_16
      refine AW.iconst dX8_isHeld_19 (by decide) ?_
      refine AW.goto (tgt := 24) dX8_isHeld_20 rfl ?_
      exact k_16
    exact k_2
  refine AW.zret dX8_isHeld_24 rfl ?_ ?_
  · (repeat' split) <;> simp
  refine fin1 k rfl ?_
  unfold bz
  (repeat' split) <;> simp_all
theorem BI_zrow' {Z' : ZT} {t : Nat → Int} (e : Z' = zrow Z 46 t) (B : BI Z) (F : flg t) : BI Z' := e ▸ BI_zrow B F
def zcLet (Z : ZT) (g n : Int) : Int := bz (¬ (¬ zinF Z g n = -1 ∧ ¬ Z 17 (48 * g + zinF Z g n).toNat = 0))
def zLet0 (Z : ZT) (g n : Int) : ZT := zs (zs Z 48 0 0) 17 (48 * g + zinF Z g n).toNat 0
theorem kX8_letGo {g n : Int} (W : WfM h) (B : BI Z) (kE : zcLet Z g n = 1 → Q (mput h (zs Z 48 0 1)) (.inl (some (vi 0))))
    (kO : zcLet Z g n = 0 → ∀ t, flg t → Q (mput h (zrow (zla (zLet0 Z g n) (Z 14 g.toNat)) 46 t)) (.inl (some (vi (zlaN (zLet0 Z g n) (Z 14 g.toNat)))))) : AC mX8_letGo fX8_letGo loX8_letGo 0 0 (mput h Z) [vr mO, vi g, vi n] Q := by
  have hR := zinF_rng B (g := g) (n := n)
  refine AC.mk (by decide) (Nat.le_of_ble_eq_true rfl) ?_
  refine AW.aload_n dX8_letGo_0 rfl ?_
  refine AW.iload_n dX8_letGo_1 rfl ?_
  refine AW.iload_n dX8_letGo_2 rfl ?_
  refine AW.callV (as := [vi _, vi _]) dX8_letGo_3 rfl rfl rfl okX8_inForm lkX8_239 W.1 rfl rfl rfl rfl rfl rfl rfl (kX8_inForm W (by assumption) (AW.k1 ?_))
  refine AW.istore_n dX8_letGo_6 rfl ?_
  refine AW.aload_n dX8_letGo_7 rfl ?_
  refine AW.aload_n dX8_letGo_8 rfl ?_
  refine AW.iload_n dX8_letGo_9 rfl ?_
  refine AW.iload_n dX8_letGo_10 rfl ?_
  refine AW.callV (as := [vi _, vi _]) dX8_letGo_11 rfl rfl rfl okX8_isHeld lkX8_248 W.1 rfl rfl rfl rfl rfl rfl rfl (kX8_isHeld W (fun c => (hR.resolve_left c).1 |> fun z => ⟨z.1, z.2.1⟩) (by omega) (AW.k1 ?_))
  refine' AW.if_eqJ 22 (tgt := 21) dX8_letGo_14 rfl _ _ _
  rotate_left 2
  · intro c_14 k_14
    refine AW.iconst dX8_letGo_21 (by decide) ?_
    exact k_14
  · intro c_14 k_14
    refine AW.iconst dX8_letGo_17 (by decide) ?_
    refine AW.goto (tgt := 22) dX8_letGo_18 rfl ?_
    exact k_14
  refine AW.top (y := zcLet Z g n) (by unfold zcLet; simp only [bz_0]; unfold bz; (repeat' split) <;> simp_all) ?_
  refine AW.callV (as := [vi _]) dX8_letGo_22 rfl rfl rfl okX8_fails lkX8_162 W.1 rfl rfl rfl rfl rfl rfl rfl (kX8_fails W (AW.k1 ?_))
  refine AW.if_eq (tgt := 30) dX8_letGo_25 rfl (fun c_25 => ?_) (fun c_25 => ?_)
  · have c := bz_0.mp c_25
    have e : zcLet Z g n = 0 := (bz01 _).resolve_right (by unfold zcLet at c; omega)
    have c2 := e
    unfold zcLet at c2
    rw [bz_0, Classical.not_not] at c2
    have hR := hR.resolve_left c2.1
    rw [e]
    refine AW.aload_n dX8_letGo_30 rfl ?_
    refine AW.mA 17 W dX8_letGo_31 lkX8_56 rfl rfl ?_
    refine AW.bipush dX8_letGo_34 bp_48 (by decide) ?_
    refine AW.iload_n dX8_letGo_36 rfl ?_
    refine AW.imulB dX8_letGo_37 (by omega) ?_
    refine AW.iload_n dX8_letGo_38 rfl ?_
    refine AW.iaddB dX8_letGo_39 (by omega) ?_
    refine AW.iconst dX8_letGo_40 (by decide) ?_
    refine AW.mstZ (j := 17) W dX8_letGo_41 rfl rfl (by simp only [mlen]; omega) (by omega) ?_
    have B2 : BI (zLet0 Z g n) := BI_fl rfl (Or.inl rfl) (BI_zs rfl B)
    refine AW.mZ (Z' := zrow (zLet0 Z g n) 46 (zLet0 Z g n 46)) zrow_self.symm ?_
    refine AW.aload_n dX8_letGo_42 rfl ?_
    refine AW.aload_n dX8_letGo_43 rfl ?_
    refine AW.mA 14 W dX8_letGo_44 lkX8_47 rfl rfl ?_
    refine AW.iload_n dX8_letGo_47 rfl ?_
    refine AW.mldE (j := 14) W dX8_letGo_48 rfl rfl (by simp only [mlen]; omega) (by rfl) ?_
    refine AW.callV (as := [vi _]) dX8_letGo_49 rfl rfl rfl okX8_looksAtDrops lkX8_251 W.1 rfl rfl rfl rfl rfl rfl rfl (kX8_looksAtDrops W B2 (B2.2.1 46 rfl) (show 0 ≤ Z 14 g.toNat ∧ Z 14 g.toNat < 4 by omega) (fun t F => (AW.k1 ?_)))
    refine AW.iret dX8_letGo_52 rfl ?_
    exact kO e t F
  · refine AW.iconst dX8_letGo_28 (by decide) ?_
    refine AW.iret dX8_letGo_29 rfl ?_
    have c := bz_n0.mp c_25
    have e : zcLet Z g n = 1 := (bz01 _).resolve_left (by unfold zcLet at c; omega)
    rw [e]
    exact kE e
/-- the fields of a form cleared -/
def zclr (Z : ZT) (g : Int) (i : Nat) : ZT := fun j q => if j = 17 ∧ 48 * g ≤ (q : Int) ∧ (q : Int) < 48 * g + i then 0 else Z j q
theorem zclr_0 {g : Int} : zclr Z g 0 = Z := by
  funext j q; unfold zclr; rw [if_neg]; rintro ⟨-, e1, e2⟩; omega
theorem zclr_step {g : Int} (hg : 0 ≤ g) {i q : Nat} (hq : q = (48 * g + (i : Int)).toNat) : zs (zclr Z g i) 17 q 0 = zclr Z g (i + 1) := by
  subst hq
  funext a b
  unfold zs zclr
  by_cases e : a = 17 ∧ b = (48 * g + (i : Int)).toNat
  · rw [if_pos e, if_pos ⟨e.1, by omega, by omega⟩]
  · rw [if_neg e]
    by_cases e2 : a = 17 ∧ 48 * g ≤ (b : Int) ∧ (b : Int) < 48 * g + (i : Nat)
    · rw [if_pos e2, if_pos ⟨e2.1, by omega, by omega⟩]
    · rw [if_neg e2, if_neg]
      rintro ⟨z1, z2, z3⟩
      refine e2 ⟨z1, z2, ?_⟩
      have := fun z => e ⟨z1, z⟩
      omega
theorem BI_zclr {g : Int} {i : Nat} (B : BI Z) : BI (zclr Z g i) := by
  have e : ∀ j', (j' != 17) = true → zclr Z g i j' = Z j' := by
    intro j' hj'
    funext q
    unfold zclr
    rw [if_neg]
    rintro ⟨rfl, -⟩
    simp at hj'
  obtain ⟨b1, b2, b3, b4, b5, b6⟩ := B
  refine ⟨?_, ?_, ?_, ?_, ?_, ?_⟩
  · unfold BS; rw [e 0 rfl, e 1 rfl, e 2 rfl, e 11 rfl]; exact b1
  · intro j' hm q
    unfold zclr; split
    · exact Or.inl rfl
    · exact b2 j' hm q
  · unfold BB; rw [e 8 rfl, e 9 rfl]; exact b3
  · unfold BG; rw [e 13 rfl, e 14 rfl, e 15 rfl, e 1 rfl]; exact b4
  · unfold BW; rw [e 12 rfl]; exact b5
  · rw [e 1 rfl, e 2 rfl]; exact b6
def zcRet (Z : ZT) (g : Int) : Int := cd2 (¬ (0 ≤ g ∧ g ≤ Z 13 0 - 1)) (¬ Z 16 g.toNat = 0)
def zRet0 (Z : ZT) (g : Int) : ZT := zclr (zs (zs Z 48 0 0) 16 g.toNat 1) g 48
theorem kX8_retire {g : Int} (W : WfM h) (B : BI Z) (kE : 0 < zcRet Z g → Q (mput h (zs Z 48 0 (zcRet Z g))) (.inl (some (vi 0))))
    (kO : zcRet Z g = 0 → ∀ t, flg t → Q (mput h (zrow (zla (zRet0 Z g) (Z 14 g.toNat)) 46 t)) (.inl (some (vi (zlaN (zRet0 Z g) (Z 14 g.toNat)))))) : AC mX8_retire fX8_retire loX8_retire 0 0 (mput h Z) [vr mO, vi g] Q := by
  have G0 := B.2.2.2.1.1
  refine AC.mk (by decide) (Nat.le_of_ble_eq_true rfl) ?_
  have lp : ∀ (m i : Nat) c2, zcRet Z g = 0 → 0 ≤ g ∧ g < 8 → i ≤ 48 → 48 ≤ i + m → AW mX8_retire fX8_retire loX8_retire 0 0 Q 0 0 46 (mput h (zclr (zs (zs Z 48 0 0) 16 g.toNat 1) g i)) [(3, vi (i : Int)), (2, vi c2), (0, vr mO), (1, vi g)] [] := by
    intro m
    induction m with
    | zero =>
      intro i c2 ec hg h1 h2
      have e : i = 48 := by omega
      subst e
      have b := B.2.2.2.1.2 g.toNat (by omega)
      have B2 : BI (zRet0 Z g) := BI_zclr (BI_fl rfl (Or.inr rfl) (BI_zs rfl B))
      refine AW.mZ (Z' := zrow (zRet0 Z g) 46 (zRet0 Z g 46)) zrow_self.symm ?_
      refine AW.iload_n dX8_retire_46 rfl ?_
      refine AW.bipush dX8_retire_47 bp_48 (by decide) ?_
      refine AW.icmp_ge (tgt := 70) dX8_retire_49 rfl (fun c_49 => ?_) (fun c_49 => ?_)
      · refine AW.aload_n dX8_retire_70 rfl ?_
        refine AW.aload_n dX8_retire_71 rfl ?_
        refine AW.mA 14 W dX8_retire_72 lkX8_47 rfl rfl ?_
        refine AW.iload_n dX8_retire_75 rfl ?_
        refine AW.mldE (j := 14) W dX8_retire_76 rfl rfl (by simp only [mlen]; omega) (by rfl) ?_
        refine AW.callV (as := [vi _]) dX8_retire_77 rfl rfl rfl okX8_looksAtDrops lkX8_251 W.1 rfl rfl rfl rfl rfl rfl rfl (kX8_looksAtDrops W B2 (B2.2.1 46 rfl) (show 0 ≤ Z 14 g.toNat ∧ Z 14 g.toNat < 4 by omega) (fun t F => (AW.k1 ?_)))
        refine AW.iret dX8_retire_80 rfl ?_
        exact kO ec t F
      · exact absurd c_49 (by omega)
    | succ m ih =>
      intro i c2 ec hg h1 h2
      by_cases e : i = 48
      · exact ih i c2 ec hg h1 (by omega)
      refine AW.iload_n dX8_retire_46 rfl ?_
      refine AW.bipush dX8_retire_47 bp_48 (by decide) ?_
      refine AW.icmp_ge (tgt := 70) dX8_retire_49 rfl (fun c_49 => ?_) (fun c_49 => ?_)
      · exact absurd c_49 (by omega)
      · refine AW.aload_n dX8_retire_52 rfl ?_
        refine AW.mA 17 W dX8_retire_53 lkX8_56 rfl rfl ?_
        refine AW.bipush dX8_retire_56 bp_48 (by decide) ?_
        refine AW.iload_n dX8_retire_58 rfl ?_
        refine AW.imulB dX8_retire_59 (by omega) ?_
        refine AW.iload_n dX8_retire_60 rfl ?_
        refine AW.iaddB dX8_retire_61 (by omega) ?_
        refine AW.iconst dX8_retire_62 (by decide) ?_
        refine AW.mstZ (j := 17) W dX8_retire_63 rfl rfl (by simp only [mlen]; omega) (by omega) ?_
        refine AW.iincB dX8_retire_64 rfl rfl (by omega) ?_
        refine AW.goto (tgt := 46) dX8_retire_67 rfl ?_
        exact AW.locs [(3, vi ((i + 1 : Nat) : Int)), (2, vi c2), (0, vr mO), (1, vi g)] ⟨rfl, rfl, rfl, rfl, trivial⟩ (AW.mZ (zclr_step hg.1 rfl) (ih (i + 1) c2 ec hg (by omega) (by omega)))
  refine AW.aload_n dX8_retire_0 rfl ?_
  refine AW.iload_n dX8_retire_1 rfl ?_
  refine AW.callV (as := [vi _]) dX8_retire_2 rfl rfl rfl okX8_isForm lkX8_232 W.1 rfl rfl rfl rfl rfl rfl rfl (kX8_isForm W (by assumption) (AW.k1 ?_))
  refine AW.istore_n dX8_retire_5 rfl ?_
  refine AW.aload_n dX8_retire_6 rfl ?_
  refine AW.iload_n dX8_retire_7 rfl ?_
  refine' AW.if_neJ 29 (tgt := 15) dX8_retire_8 rfl _ _ _
  rotate_left 2
  · intro c_8 k_8
    have c := bz_n0.mp c_8
    refine AW.aload_n dX8_retire_15 rfl ?_
    refine AW.mA 16 W dX8_retire_16 lkX8_53 rfl rfl ?_
    refine AW.iload_n dX8_retire_19 rfl ?_
    refine AW.mldZE (j := 16) W dX8_retire_20 rfl rfl (by simp only [mlen]; omega) rfl ?_
    refine' AW.if_eqJ 29 (tgt := 28) dX8_retire_21 rfl _ _ _
    rotate_left 2
    · intro c_21 k_21
      refine AW.iconst dX8_retire_28 (by decide) ?_
      exact k_21
    · intro c_21 k_21
      refine AW.iconst dX8_retire_24 (by decide) ?_
      refine AW.goto (tgt := 29) dX8_retire_25 rfl ?_
      exact k_21
    exact k_8
  · intro c_8 k_8
    refine AW.iconst dX8_retire_11 (by decide) ?_
    refine AW.goto (tgt := 29) dX8_retire_12 rfl ?_
    exact k_8
  refine AW.top (y := zcRet Z g) (by unfold zcRet cd2; simp only [bz_0, bz_n0]; (repeat' split) <;> simp_all) ?_
  refine AW.callV (as := [vi _]) dX8_retire_29 rfl rfl rfl okX8_fails lkX8_162 W.1 rfl rfl rfl rfl rfl rfl rfl (kX8_fails W (AW.k1 ?_))
  refine AW.if_eq (tgt := 37) dX8_retire_32 rfl (fun c_32 => ?_) (fun c_32 => ?_)
  · have c := bz_0.mp c_32
    have e : zcRet Z g = 0 := by unfold zcRet cd2 at *; (repeat' split at c) <;> omega
    obtain ⟨c1, c2⟩ := cd2_0.mp c
    rw [Classical.not_not] at c1
    rw [e]
    refine AW.aload_n dX8_retire_37 rfl ?_
    refine AW.mA 16 W dX8_retire_38 lkX8_53 rfl rfl ?_
    refine AW.iload_n dX8_retire_41 rfl ?_
    refine AW.iconst dX8_retire_42 (by decide) ?_
    refine AW.mstZ (j := 16) W dX8_retire_43 rfl rfl (by simp only [mlen]; omega) (by omega) ?_
    refine AW.iconst dX8_retire_44 (by decide) ?_
    refine AW.istore_n dX8_retire_45 rfl ?_
    refine AW.mZ zclr_0.symm (lp 48 0 _ e (by omega) (by omega) (by omega))
  · refine AW.iconst dX8_retire_35 (by decide) ?_
    refine AW.iret dX8_retire_36 rfl ?_
    have c := bz_n0.mp c_32
    exact kE c
end M11

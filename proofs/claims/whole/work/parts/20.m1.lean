/-! ===== the model's methods: small ones ===== -/
def bz (P : Prop) [Decidable P] : Int := if P then 1 else 0
theorem bz01 (P : Prop) [Decidable P] : bz P = 0 ∨ bz P = 1 := by unfold bz; split <;> simp
theorem bz_1 {P : Prop} [Decidable P] : bz P = 1 ↔ P := by unfold bz; split <;> simp_all
theorem bz_0 {P : Prop} [Decidable P] : bz P = 0 ↔ ¬ P := by unfold bz; split <;> simp_all
theorem bz_n0 {P : Prop} [Decidable P] : ¬ bz P = 0 ↔ P := by unfold bz; split <;> simp_all
section M1
variable {Q : AH → AO → Prop} {h : AH} {Z : ZT}
theorem kX8_lies {v a b : Int} (k : Q h (.inl (some (vi (bz (a ≤ v ∧ v ≤ b)))))) : AC mX8_lies fX8_lies loX8_lies 0 0 h [vi v, vi a, vi b] Q := by
  refine AC.mk (by decide) (Nat.le_of_ble_eq_true rfl) ?_
  refine AW.iload_n dX8_lies_0 rfl ?_
  refine AW.iload_n dX8_lies_1 rfl ?_
  refine' AW.icmp_ltJ 15 (tgt := 14) dX8_lies_2 rfl _ _ _
  rotate_left 2
  · intro c_2 k_2
    refine AW.iconst dX8_lies_14 (by decide) ?_
    exact k_2
  · intro c_2 k_2
    refine AW.iload_n dX8_lies_5 rfl ?_
    refine AW.iload_n dX8_lies_6 rfl ?_
    refine' AW.icmp_gtJ 15 (tgt := 14) dX8_lies_7 rfl _ _ _
    rotate_left 2
    · intro c_7 k_7
      refine AW.iconst dX8_lies_14 (by decide) ?_
      exact k_7
    · intro c_7 k_7
      refine AW.iconst dX8_lies_10 (by decide) ?_
      refine AW.goto (tgt := 15) dX8_lies_11 rfl ?_
      exact k_7
    exact k_2
  refine AW.zret dX8_lies_15 rfl ?_ ?_
  · (repeat' split) <;> simp
  refine fin1 k rfl ?_
  unfold bz
  (repeat' split) <;> omega
theorem kX8_place {s a f : Int} (hb : 0 ≤ s ∧ s ≤ 4 ∧ 0 ≤ a ∧ a ≤ 24 ∧ -1 ≤ f ∧ f ≤ 48) (k : Q h (.inl (some (vi (48 * (24 * s + a) + f))))) : AC mX8_place fX8_place loX8_place 0 0 h [vi s, vi a, vi f] Q := by
  refine AC.mk (by decide) (Nat.le_of_ble_eq_true rfl) ?_
  refine AW.bipush dX8_place_0 bp_48 (by decide) ?_
  refine AW.bipush dX8_place_2 bp_24 (by decide) ?_
  refine AW.iload_n dX8_place_4 rfl ?_
  refine AW.imulB dX8_place_5 (by omega) ?_
  refine AW.iload_n dX8_place_6 rfl ?_
  refine AW.iaddB dX8_place_7 (by omega) ?_
  refine AW.imulB dX8_place_8 (by omega) ?_
  refine AW.iload_n dX8_place_9 rfl ?_
  refine AW.iaddB dX8_place_10 (by omega) ?_
  refine AW.iret dX8_place_11 rfl ?_
  exact k
theorem kX8_thrown (W : WfM h) (k : Q (mput h Z) (.inl (some (vi (Z 48 0))))) : AC mX8_thrown fX8_thrown loX8_thrown 0 0 (mput h Z) [vr mO] Q := by
  refine AC.mk (by decide) (Nat.le_of_ble_eq_true rfl) ?_
  refine AW.aload_n dX8_thrown_0 rfl ?_
  refine AW.mSE 48 W dX8_thrown_1 lkX8_137 rfl rfl rfl ?_
  refine AW.iret dX8_thrown_4 rfl ?_
  exact k
theorem kX8_fails {w : Int} (W : WfM h) (k : Q (mput h (zs Z 48 0 w)) (.inl (some (vi (bz (0 < w)))))) : AC mX8_fails fX8_fails loX8_fails 0 0 (mput h Z) [vr mO, vi w] Q := by
  refine AC.mk (by decide) (Nat.le_of_ble_eq_true rfl) ?_
  refine AW.aload_n dX8_fails_0 rfl ?_
  refine AW.iload_n dX8_fails_1 rfl ?_
  refine AW.mSp 48 W dX8_fails_2 lkX8_137 rfl rfl rfl ?_
  refine AW.iload_n dX8_fails_5 rfl ?_
  refine' AW.if_leJ 14 (tgt := 13) dX8_fails_6 rfl _ _ _
  rotate_left 2
  · intro c_6 k_6
    refine AW.iconst dX8_fails_13 (by decide) ?_
    exact k_6
  · intro c_6 k_6
    refine AW.iconst dX8_fails_9 (by decide) ?_
    refine AW.goto (tgt := 14) dX8_fails_10 rfl ?_
    exact k_6
  refine AW.zret dX8_fails_14 rfl ?_ ?_
  · split <;> simp
  refine fin1 k rfl ?_
  unfold bz
  (repeat' split) <;> omega
theorem kX8_isSchema {s : Int} (W : WfM h) (hb : 0 ≤ Z 0 0 ∧ Z 0 0 ≤ 4) (k : Q (mput h Z) (.inl (some (vi (bz (0 ≤ s ∧ s < Z 0 0)))))) : AC mX8_isSchema fX8_isSchema loX8_isSchema 0 0 (mput h Z) [vr mO, vi s] Q := by
  refine AC.mk (by decide) (Nat.le_of_ble_eq_true rfl) ?_
  refine AW.iload_n dX8_isSchema_0 rfl ?_
  refine AW.iconst dX8_isSchema_1 (by decide) ?_
  refine AW.aload_n dX8_isSchema_2 rfl ?_
  refine AW.mSE 0 W dX8_isSchema_3 lkX8_141 rfl rfl rfl ?_
  refine AW.iconst dX8_isSchema_6 (by decide) ?_
  refine AW.isubB dX8_isSchema_7 (by omega) ?_
  refine AW.callS (as := [vi _, vi _, vi _]) dX8_isSchema_8 rfl rfl rfl okX8_lies lkX8_144 rfl rfl rfl rfl rfl rfl (kX8_lies  (AW.k1 ?_))
  refine AW.zret dX8_isSchema_11 rfl ?_ ?_
  · exact bz01 _
  refine fin1 k rfl ?_
  unfold bz
  (repeat' split) <;> omega
theorem kX8_isName {s : Int} (k : Q h (.inl (some (vi (bz (0 ≤ s ∧ s ≤ 25)))))) : AC mX8_isName fX8_isName loX8_isName 0 0 h [vi s] Q := by
  refine AC.mk (by decide) (Nat.le_of_ble_eq_true rfl) ?_
  refine AW.iload_n dX8_isName_0 rfl ?_
  refine AW.iconst dX8_isName_1 (by decide) ?_
  refine AW.bipush dX8_isName_2 bp_25 (by decide) ?_
  refine AW.callS (as := [vi _, vi _, vi _]) dX8_isName_4 rfl rfl rfl okX8_lies lkX8_144 rfl rfl rfl rfl rfl rfl (kX8_lies  (AW.k1 ?_))
  refine AW.zret dX8_isName_7 rfl ?_ ?_
  · exact bz01 _
  exact k
def zmost (s : Int) : Int := if s = 0 then 9999 else if s = 1 then 1 else 999
theorem kX8_most {s : Int} (k : Q h (.inl (some (vi (zmost s))))) : AC mX8_most fX8_most loX8_most 0 0 h [vi s] Q := by
  refine AC.mk (by decide) (Nat.le_of_ble_eq_true rfl) ?_
  refine AW.iload_n dX8_most_0 rfl ?_
  refine' AW.if_neJ 22 (tgt := 10) dX8_most_1 rfl _ _ _
  rotate_left 2
  · intro c_1 k_1
    refine AW.iload_n dX8_most_10 rfl ?_
    refine AW.iconst dX8_most_11 (by decide) ?_
    refine' AW.icmp_neJ 22 (tgt := 19) dX8_most_12 rfl _ _ _
    rotate_left 2
    · intro c_12 k_12
      refine AW.sipush dX8_most_19 sp_999 (by decide) ?_
      exact k_12
    · intro c_12 k_12
      refine AW.iconst dX8_most_15 (by decide) ?_
      refine AW.goto (tgt := 22) dX8_most_16 rfl ?_
      exact k_12
    exact k_1
  · intro c_1 k_1
    refine AW.sipush dX8_most_4 sp_9999 (by decide) ?_
    refine AW.goto (tgt := 22) dX8_most_7 rfl ?_
    exact k_1
  refine AW.iret dX8_most_22 rfl ?_
  refine fin1 k rfl ?_
  unfold zmost
  (repeat' split) <;> omega
theorem kX8_isLast {s : Int} (W : WfM h) (hs : 0 ≤ s ∧ s < 4) (k : Q (mput h Z) (.inl (some (vi (bz (Z 1 s.toNat = 23)))))) : AC mX8_isLast fX8_isLast loX8_isLast 0 0 (mput h Z) [vr mO, vi s] Q := by
  refine AC.mk (by decide) (Nat.le_of_ble_eq_true rfl) ?_
  refine AW.aload_n dX8_isLast_0 rfl ?_
  refine AW.mA 1 W dX8_isLast_1 lkX8_7 rfl rfl ?_
  refine AW.iload_n dX8_isLast_4 rfl ?_
  refine AW.mldE (j := 1) W dX8_isLast_5 rfl rfl (by simp only [mlen]; omega) rfl ?_
  refine AW.bipush dX8_isLast_6 bp_23 (by decide) ?_
  refine' AW.icmp_neJ 16 (tgt := 15) dX8_isLast_8 rfl _ _ _
  rotate_left 2
  · intro c_8 k_8
    refine AW.iconst dX8_isLast_15 (by decide) ?_
    exact k_8
  · intro c_8 k_8
    refine AW.iconst dX8_isLast_11 (by decide) ?_
    refine AW.goto (tgt := 16) dX8_isLast_12 rfl ?_
    exact k_8
  refine AW.zret dX8_isLast_16 rfl ?_ ?_
  · (repeat' split) <;> simp
  refine fin1 k rfl ?_
  unfold bz
  (repeat' split) <;> omega
/-- the field of a version with a name -/
def zfA (Z : ZT) (s a n : Int) : Nat → Int
  | 0 => -1
  | k + 1 => if (0 ≤ n ∧ n ≤ 25) ∧ Z 5 (48 * (24 * s + a) + (k : Int)).toNat = n then (k : Int) else zfA Z s a n k
def zfind (Z : ZT) (s a n : Int) : Int := zfA Z s a n (Z 2 s.toNat).toNat
theorem lX8_find {fr lo : Nat} (hfr : fr = fX8_find) (hlo : lo = loX8_find) {mc ms bc bs : Nat} {s a n : Int} (W : WfM h) (hs : 0 ≤ s ∧ s < 4) (ha : 0 ≤ a ∧ a ≤ 23) (hf : 0 ≤ Z 2 s.toNat ∧ Z 2 s.toNat ≤ 48) (k : Q (mput h Z) (.inl (some (vi (zfind Z s a n))))) :
    ∀ (m i : Nat), (i : Int) ≤ Z 2 s.toNat → Z 2 s.toNat ≤ i + m → AW mX8_find fr lo mc ms Q bc bs 6 (mput h Z) [(5, vi (i : Int)), (4, vi (zfA Z s a n i)), (0, vr mO), (1, vi s), (2, vi a), (3, vi n)] [] := by
  subst hfr; subst hlo
  intro m
  induction m with
  | zero =>
    intro i h1 h2
    refine AW.iload dX8_find_6 rfl ?_
    refine AW.aload_n dX8_find_8 rfl ?_
    refine AW.mA 2 W dX8_find_9 lkX8_13 rfl rfl ?_
    refine AW.iload_n dX8_find_12 rfl ?_
    refine AW.mldE (j := 2) W dX8_find_13 rfl rfl (by simp only [mlen]; omega) rfl ?_
    refine AW.icmp_ge (tgt := 55) dX8_find_14 rfl (fun c_14 => ?_) (fun c_14 => ?_)
    · refine AW.iload dX8_find_55 rfl ?_
      refine AW.iret dX8_find_57 rfl ?_
      refine fin1 k rfl ?_
      unfold zfind
      congr 1
      omega
    · exact absurd c_14 (by omega)
  | succ m ih =>
    intro i h1 h2
    refine AW.iload dX8_find_6 rfl ?_
    refine AW.aload_n dX8_find_8 rfl ?_
    refine AW.mA 2 W dX8_find_9 lkX8_13 rfl rfl ?_
    refine AW.iload_n dX8_find_12 rfl ?_
    refine AW.mldE (j := 2) W dX8_find_13 rfl rfl (by simp only [mlen]; omega) rfl ?_
    refine AW.icmp_ge (tgt := 55) dX8_find_14 rfl (fun c_14 => ?_) (fun c_14 => ?_)
    · refine AW.iload dX8_find_55 rfl ?_
      refine AW.iret dX8_find_57 rfl ?_
      refine fin1 k rfl ?_
      unfold zfind
      congr 1
      omega
    · refine AW.iload_n dX8_find_17 rfl ?_
      refine AW.callS (as := [vi _]) dX8_find_18 rfl rfl rfl okX8_isName lkX8_148 rfl rfl rfl rfl rfl rfl (kX8_isName  (AW.k1 ?_))
      refine' AW.if_eqJ 47 (tgt := 45) dX8_find_21 rfl _ _ _
      rotate_left 2
      · intro c_21 k_21
        refine AW.iload dX8_find_45 rfl ?_
        exact k_21
      · intro c_21 k_21
        refine AW.aload_n dX8_find_24 rfl ?_
        refine AW.mA 5 W dX8_find_25 lkX8_22 rfl rfl ?_
        refine AW.iload_n dX8_find_28 rfl ?_
        refine AW.iload_n dX8_find_29 rfl ?_
        refine AW.iload dX8_find_30 rfl ?_
        refine AW.callS (as := [vi _, vi _, vi _]) dX8_find_32 rfl rfl rfl okX8_place lkX8_152 rfl rfl rfl rfl rfl rfl (kX8_place (by omega) (AW.k1 ?_))
        refine AW.mldE (j := 5) W dX8_find_35 rfl rfl (by simp only [mlen]; omega) rfl ?_
        refine AW.iload_n dX8_find_36 rfl ?_
        refine' AW.icmp_neJ 47 (tgt := 45) dX8_find_37 rfl _ _ _
        rotate_left 2
        · intro c_37 k_37
          refine AW.iload dX8_find_45 rfl ?_
          exact k_37
        · intro c_37 k_37
          refine AW.iload dX8_find_40 rfl ?_
          refine AW.goto (tgt := 47) dX8_find_42 rfl ?_
          exact k_37
        exact k_21
      refine AW.istore dX8_find_47 rfl ?_
      refine AW.iincB dX8_find_49 rfl rfl (by omega) ?_
      refine AW.goto (tgt := 6) dX8_find_52 rfl ?_
      refine AW.locs [(5, vi ((i + 1 : Nat) : Int)), (4, vi (zfA Z s a n (i + 1))), (0, vr mO), (1, vi s), (2, vi a), (3, vi n)] ⟨rfl, ?_, rfl, rfl, rfl, rfl, trivial⟩ (ih (i + 1) (by omega) (by omega))
      show some (vi _) = some (vi _)
      congr 2
      simp only [zfA, bz_0, Classical.not_not]
      (repeat' split) <;> simp_all
theorem kX8_find {s a n : Int} (W : WfM h) (hs : 0 ≤ s ∧ s < 4) (ha : 0 ≤ a ∧ a ≤ 23) (hf : 0 ≤ Z 2 s.toNat ∧ Z 2 s.toNat ≤ 48) (k : Q (mput h Z) (.inl (some (vi (zfind Z s a n))))) : AC mX8_find fX8_find loX8_find 0 0 (mput h Z) [vr mO, vi s, vi a, vi n] Q := by
  refine AC.mk (by decide) (Nat.le_of_ble_eq_true rfl) ?_
  refine AW.iconst dX8_find_0 (by decide) ?_
  refine AW.istore dX8_find_1 rfl ?_
  refine AW.iconst dX8_find_3 (by decide) ?_
  refine AW.istore dX8_find_4 rfl ?_
  exact lX8_find rfl rfl W hs ha hf k (Z 2 s.toNat).toNat 0 (by omega) (by omega)
end M1

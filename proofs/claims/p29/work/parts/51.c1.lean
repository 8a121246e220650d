/-! ===== the class: what needs no cells ===== -/
section C1
variable {Q : AH → AO → Prop} {h : AH}
theorem kX7_isName {n : Int} (k : Q h (.inl (some (vi (bz (0 ≤ n ∧ n ≤ 25)))))) : AC mX7_isName fX7_isName loX7_isName 0 0 h [vi n] Q := by
  refine AC.mk (by decide) (Nat.le_of_ble_eq_true rfl) ?_
  refine AW.iload_n dX7_isName_0 rfl ?_
  refine' AW.if_ltJ 15 (tgt := 14) dX7_isName_1 rfl _ _ _
  rotate_left 2
  · intro c_1 k_1
    refine AW.iconst dX7_isName_14 (by decide) ?_
    exact k_1
  · intro c_1 k_1
    refine AW.iload_n dX7_isName_4 rfl ?_
    refine AW.bipush dX7_isName_5 bp_26 (by decide) ?_
    refine' AW.icmp_geJ 15 (tgt := 14) dX7_isName_7 rfl _ _ _
    rotate_left 2
    · intro c_7 k_7
      refine AW.iconst dX7_isName_14 (by decide) ?_
      exact k_7
    · intro c_7 k_7
      refine AW.iconst dX7_isName_10 (by decide) ?_
      refine AW.goto (tgt := 15) dX7_isName_11 rfl ?_
      exact k_7
    exact k_1
  refine AW.zret dX7_isName_15 rfl ?_ ?_
  · (repeat' split) <;> simp
  refine fin1 k rfl ?_
  unfold bz
  (repeat' split) <;> omega
theorem kX7_isKind {n : Int} (k : Q h (.inl (some (vi (bz (0 ≤ n ∧ n ≤ 2)))))) : AC mX7_isKind fX7_isKind loX7_isKind 0 0 h [vi n] Q := by
  refine AC.mk (by decide) (Nat.le_of_ble_eq_true rfl) ?_
  refine AW.iload_n dX7_isKind_0 rfl ?_
  refine' AW.if_ltJ 14 (tgt := 13) dX7_isKind_1 rfl _ _ _
  rotate_left 2
  · intro c_1 k_1
    refine AW.iconst dX7_isKind_13 (by decide) ?_
    exact k_1
  · intro c_1 k_1
    refine AW.iload_n dX7_isKind_4 rfl ?_
    refine AW.iconst dX7_isKind_5 (by decide) ?_
    refine' AW.icmp_gtJ 14 (tgt := 13) dX7_isKind_6 rfl _ _ _
    rotate_left 2
    · intro c_6 k_6
      refine AW.iconst dX7_isKind_13 (by decide) ?_
      exact k_6
    · intro c_6 k_6
      refine AW.iconst dX7_isKind_9 (by decide) ?_
      refine AW.goto (tgt := 14) dX7_isKind_10 rfl ?_
      exact k_6
    exact k_1
  refine AW.zret dX7_isKind_14 rfl ?_ ?_
  · (repeat' split) <;> simp
  refine fin1 k rfl ?_
  unfold bz
  (repeat' split) <;> omega
theorem kX7_isFactor {n : Int} (k : Q h (.inl (some (vi (bz (2 ≤ n ∧ n ≤ 100)))))) : AC mX7_isFactor fX7_isFactor loX7_isFactor 0 0 h [vi n] Q := by
  refine AC.mk (by decide) (Nat.le_of_ble_eq_true rfl) ?_
  refine AW.iload_n dX7_isFactor_0 rfl ?_
  refine AW.iconst dX7_isFactor_1 (by decide) ?_
  refine' AW.icmp_ltJ 16 (tgt := 15) dX7_isFactor_2 rfl _ _ _
  rotate_left 2
  · intro c_2 k_2
    refine AW.iconst dX7_isFactor_15 (by decide) ?_
    exact k_2
  · intro c_2 k_2
    refine AW.iload_n dX7_isFactor_5 rfl ?_
    refine AW.bipush dX7_isFactor_6 bp_100 (by decide) ?_
    refine' AW.icmp_gtJ 16 (tgt := 15) dX7_isFactor_8 rfl _ _ _
    rotate_left 2
    · intro c_8 k_8
      refine AW.iconst dX7_isFactor_15 (by decide) ?_
      exact k_8
    · intro c_8 k_8
      refine AW.iconst dX7_isFactor_11 (by decide) ?_
      refine AW.goto (tgt := 16) dX7_isFactor_12 rfl ?_
      exact k_8
    exact k_2
  refine AW.zret dX7_isFactor_16 rfl ?_ ?_
  · (repeat' split) <;> simp
  refine fin1 k rfl ?_
  unfold bz
  (repeat' split) <;> omega
def cgr (n : Int) : Int := if n = 1 then 1 else if n = 2 then 999 else 9999
theorem kX7_greatestOf {n : Int} (k : Q h (.inl (some (vi (cgr n))))) : AC mX7_greatestOf fX7_greatestOf loX7_greatestOf 0 0 h [vi n] Q := by
  refine AC.mk (by decide) (Nat.le_of_ble_eq_true rfl) ?_
  refine AW.iload_n dX7_greatestOf_0 rfl ?_
  refine AW.iconst dX7_greatestOf_1 (by decide) ?_
  refine AW.icmp_ne (tgt := 7) dX7_greatestOf_2 rfl (fun c_2 => ?_) (fun c_2 => ?_)
  · refine AW.iload_n dX7_greatestOf_7 rfl ?_
    refine AW.iconst dX7_greatestOf_8 (by decide) ?_
    refine' AW.icmp_neJ 21 (tgt := 18) dX7_greatestOf_9 rfl _ _ _
    rotate_left 2
    · intro c_9 k_9
      refine AW.sipush dX7_greatestOf_18 sp_9999 (by decide) ?_
      exact k_9
    · intro c_9 k_9
      refine AW.sipush dX7_greatestOf_12 sp_999 (by decide) ?_
      refine AW.goto (tgt := 21) dX7_greatestOf_15 rfl ?_
      exact k_9
    refine AW.iret dX7_greatestOf_21 rfl ?_
    refine fin1 k rfl ?_
    unfold cgr
    (repeat' split) <;> first | rfl | omega
  · refine AW.iconst dX7_greatestOf_5 (by decide) ?_
    refine AW.iret dX7_greatestOf_6 rfl ?_
    refine fin1 k rfl ?_
    unfold cgr
    (repeat' split) <;> first | rfl | omega
theorem kX7_isValue {n v : Int} (k : Q h (.inl (some (vi (bz ((0 ≤ n ∧ n ≤ 2) ∧ 0 ≤ v ∧ v ≤ zmost n)))))) : AC mX7_isValue fX7_isValue loX7_isValue 0 0 h [vi n, vi v] Q := by
  refine AC.mk (by decide) (Nat.le_of_ble_eq_true rfl) ?_
  refine AW.iload_n dX7_isValue_0 rfl ?_
  refine AW.callS (as := [vi _]) dX7_isValue_1 rfl rfl rfl okX7_isKind lkX7_115 rfl rfl rfl rfl rfl rfl (kX7_isKind  (AW.k1 ?_))
  refine' AW.if_eqJ 24 (tgt := 23) dX7_isValue_4 rfl _ _ _
  rotate_left 2
  · intro c_4 k_4
    refine AW.iconst dX7_isValue_23 (by decide) ?_
    exact k_4
  · intro c_4 k_4
    refine AW.iload_n dX7_isValue_7 rfl ?_
    refine' AW.if_ltJ 24 (tgt := 23) dX7_isValue_8 rfl _ _ _
    rotate_left 2
    · intro c_8 k_8
      refine AW.iconst dX7_isValue_23 (by decide) ?_
      exact k_8
    · intro c_8 k_8
      refine AW.iload_n dX7_isValue_11 rfl ?_
      refine AW.iload_n dX7_isValue_12 rfl ?_
      refine AW.callS (as := [vi _]) dX7_isValue_13 rfl rfl rfl okX7_greatestOf lkX7_440 rfl rfl rfl rfl rfl rfl (kX7_greatestOf  (AW.k1 ?_))
      refine' AW.icmp_gtJ 24 (tgt := 23) dX7_isValue_16 rfl _ _ _
      rotate_left 2
      · intro c_16 k_16
        refine AW.iconst dX7_isValue_23 (by decide) ?_
        exact k_16
      · intro c_16 k_16
        refine AW.iconst dX7_isValue_19 (by decide) ?_
        refine AW.goto (tgt := 24) dX7_isValue_20 rfl ?_
        exact k_16
      exact k_8
    exact k_4
  refine AW.zret dX7_isValue_24 rfl ?_ ?_
  · (repeat' split) <;> simp
  refine fin1 k rfl ?_
  simp only [bz_0]
  unfold bz cgr zmost
  (repeat' split) <;> first | rfl | omega
theorem kX7_bit {f : Int} (hf : 0 ≤ f ∧ f < 64) (k : Q h (.inl (some (vl (bitI f))))) : AC mX7_bit fX7_bit loX7_bit 0 0 h [vi f] Q := by
  refine AC.mk (by decide) (Nat.le_of_ble_eq_true rfl) ?_
  refine AW.lconst dX7_bit_0 ?_
  refine AW.iload_n dX7_bit_1 rfl ?_
  refine AW.lshl dX7_bit_2 (by omega) ?_
  refine AW.lret dX7_bit_3 rfl ?_
  exact k
theorem lcm_and {x : Int64} {f : Int} (hf : 0 ≤ f ∧ f < 64) : lcm (x &&& bitI f) (Int64.ofNat ((0 : Fin 2) : Nat)) = 0 ↔ ¬ bt x f := by
  rw [lcm_z]; exact and_bit hf
theorem kX7_contains {x : Int64} {f : Int} (hf : 0 ≤ f ∧ f < 64) (k : Q h (.inl (some (vi (bz (bt x f)))))) : AC mX7_contains fX7_contains loX7_contains 0 0 h [vl x, vi f] Q := by
  refine AC.mk (by decide) (Nat.le_of_ble_eq_true rfl) ?_
  refine AW.lload_n dX7_contains_0 rfl ?_
  refine AW.iload_n dX7_contains_1 rfl ?_
  refine AW.callS (as := [vi _]) dX7_contains_2 rfl rfl rfl okX7_bit lkX7_256 rfl rfl rfl rfl rfl rfl (kX7_bit (by omega) (AW.k1 ?_))
  refine AW.land dX7_contains_5 ?_
  refine AW.lconst dX7_contains_6 ?_
  refine AW.lcmp dX7_contains_7 ?_
  refine' AW.if_eqJ 16 (tgt := 15) dX7_contains_8 rfl _ _ _
  rotate_left 2
  · intro c_8 k_8
    refine AW.iconst dX7_contains_15 (by decide) ?_
    exact k_8
  · intro c_8 k_8
    refine AW.iconst dX7_contains_11 (by decide) ?_
    refine AW.goto (tgt := 16) dX7_contains_12 rfl ?_
    exact k_8
  refine AW.zret dX7_contains_16 rfl ?_ ?_
  · (repeat' split) <;> simp
  refine fin1 k rfl ?_
  simp only [lcm_and hf]
  unfold bz
  (repeat' split) <;> simp_all
def cqu (w d : Int) : Int := if w = -1 ∨ d ≤ 0 then -1 else w.tdiv d
def crm (w d : Int) : Int := if w = -1 ∨ d ≤ 0 then -1 else w.tmod d
theorem kX7_turned {v f t : Int} (k : Q h (.inl (some (vi (if v = -1 then -1 else if t = 1 then bz (0 < v) else if f = 0 ∧ t = 2 then v.tdiv 10 else if f = 2 ∧ t = 0 then wr (10 * v) else v))))) : AC mX7_turned fX7_turned loX7_turned 0 0 h [vi v, vi f, vi t] Q := by
  refine AC.mk (by decide) (Nat.le_of_ble_eq_true rfl) ?_
  refine AW.iload_n dX7_turned_0 rfl ?_
  refine AW.iconst dX7_turned_1 (by decide) ?_
  refine AW.icmp_ne (tgt := 7) dX7_turned_2 rfl (fun c_2 => ?_) (fun c_2 => ?_)
  · refine AW.iload_n dX7_turned_7 rfl ?_
    refine AW.iconst dX7_turned_8 (by decide) ?_
    refine AW.icmp_ne (tgt := 22) dX7_turned_9 rfl (fun c_9 => ?_) (fun c_9 => ?_)
    · refine AW.iload_n dX7_turned_22 rfl ?_
      refine AW.if_ne (tgt := 36) dX7_turned_23 rfl (fun c_23 => ?_) (fun c_23 => ?_)
      · refine AW.iload_n dX7_turned_36 rfl ?_
        refine AW.iconst dX7_turned_37 (by decide) ?_
        refine' AW.icmp_neJ 53 (tgt := 52) dX7_turned_38 rfl _ _ _
        rotate_left 2
        · intro c_38 k_38
          refine AW.iload_n dX7_turned_52 rfl ?_
          exact k_38
        · intro c_38 k_38
          refine AW.iload_n dX7_turned_41 rfl ?_
          refine' AW.if_neJ 53 (tgt := 52) dX7_turned_42 rfl _ _ _
          rotate_left 2
          · intro c_42 k_42
            refine AW.iload_n dX7_turned_52 rfl ?_
            exact k_42
          · intro c_42 k_42
            refine AW.bipush dX7_turned_45 bp_10 (by decide) ?_
            refine AW.iload_n dX7_turned_47 rfl ?_
            refine AW.imul dX7_turned_48 ?_
            refine AW.goto (tgt := 53) dX7_turned_49 rfl ?_
            exact k_42
          exact k_38
        refine AW.iret dX7_turned_53 rfl ?_
        refine fin1 k rfl ?_
        unfold bz
        (repeat' split) <;> first | rfl | omega
      · refine AW.iload_n dX7_turned_26 rfl ?_
        refine AW.iconst dX7_turned_27 (by decide) ?_
        refine AW.icmp_ne (tgt := 36) dX7_turned_28 rfl (fun c_28 => ?_) (fun c_28 => ?_)
        · refine AW.iload_n dX7_turned_36 rfl ?_
          refine AW.iconst dX7_turned_37 (by decide) ?_
          refine' AW.icmp_neJ 53 (tgt := 52) dX7_turned_38 rfl _ _ _
          rotate_left 2
          · intro c_38 k_38
            refine AW.iload_n dX7_turned_52 rfl ?_
            exact k_38
          · intro c_38 k_38
            refine AW.iload_n dX7_turned_41 rfl ?_
            refine' AW.if_neJ 53 (tgt := 52) dX7_turned_42 rfl _ _ _
            rotate_left 2
            · intro c_42 k_42
              refine AW.iload_n dX7_turned_52 rfl ?_
              exact k_42
            · intro c_42 k_42
              refine AW.bipush dX7_turned_45 bp_10 (by decide) ?_
              refine AW.iload_n dX7_turned_47 rfl ?_
              refine AW.imul dX7_turned_48 ?_
              refine AW.goto (tgt := 53) dX7_turned_49 rfl ?_
              exact k_42
            exact k_38
          refine AW.iret dX7_turned_53 rfl ?_
          refine fin1 k rfl ?_
          unfold bz
          (repeat' split) <;> first | rfl | omega
        · refine AW.iload_n dX7_turned_31 rfl ?_
          refine AW.bipush dX7_turned_32 bp_10 (by decide) ?_
          refine AW.idiv dX7_turned_34 (by omega) ?_
          refine AW.iret dX7_turned_35 rfl ?_
          refine fin1 k rfl ?_
          unfold bz
          (repeat' split) <;> first | rfl | omega
    · refine AW.iload_n dX7_turned_12 rfl ?_
      refine' AW.if_leJ 21 (tgt := 20) dX7_turned_13 rfl _ _ _
      rotate_left 2
      · intro c_13 k_13
        refine AW.iconst dX7_turned_20 (by decide) ?_
        exact k_13
      · intro c_13 k_13
        refine AW.iconst dX7_turned_16 (by decide) ?_
        refine AW.goto (tgt := 21) dX7_turned_17 rfl ?_
        exact k_13
      refine AW.iret dX7_turned_21 rfl ?_
      refine fin1 k rfl ?_
      unfold bz
      (repeat' split) <;> first | rfl | omega
  · refine AW.iconst dX7_turned_5 (by decide) ?_
    refine AW.iret dX7_turned_6 rfl ?_
    refine fin1 k rfl ?_
    unfold bz
    (repeat' split) <;> first | rfl | omega
theorem kX7_quotient {w d : Int} (k : Q h (.inl (some (vi (cqu w d))))) : AC mX7_quotient fX7_quotient loX7_quotient 0 0 h [vi w, vi d] Q := by
  refine AC.mk (by decide) (Nat.le_of_ble_eq_true rfl) ?_
  refine AW.iload_n dX7_quotient_0 rfl ?_
  refine AW.iconst dX7_quotient_1 (by decide) ?_
  refine' AW.icmp_eqJ 16 (tgt := 9) dX7_quotient_2 rfl _ _ _
  rotate_left 2
  · intro c_2 k_2
    refine AW.iconst dX7_quotient_9 (by decide) ?_
    refine AW.goto (tgt := 16) dX7_quotient_10 rfl ?_
    exact k_2
  · intro c_2 k_2
    refine AW.iload_n dX7_quotient_5 rfl ?_
    refine' AW.if_gtJ 16 (tgt := 13) dX7_quotient_6 rfl _ _ _
    rotate_left 2
    · intro c_6 k_6
      refine AW.iload_n dX7_quotient_13 rfl ?_
      refine AW.iload_n dX7_quotient_14 rfl ?_
      refine AW.idiv dX7_quotient_15 (by omega) ?_
      exact k_6
    · intro c_6 k_6
      refine AW.iconst dX7_quotient_9 (by decide) ?_
      refine AW.goto (tgt := 16) dX7_quotient_10 rfl ?_
      exact k_6
    exact k_2
  refine AW.iret dX7_quotient_16 rfl ?_
  refine fin1 k rfl ?_
  unfold cqu
  (repeat' split) <;> first | rfl | omega
theorem kX7_remainder {w d : Int} (k : Q h (.inl (some (vi (crm w d))))) : AC mX7_remainder fX7_remainder loX7_remainder 0 0 h [vi w, vi d] Q := by
  refine AC.mk (by decide) (Nat.le_of_ble_eq_true rfl) ?_
  refine AW.iload_n dX7_remainder_0 rfl ?_
  refine AW.iconst dX7_remainder_1 (by decide) ?_
  refine' AW.icmp_eqJ 16 (tgt := 9) dX7_remainder_2 rfl _ _ _
  rotate_left 2
  · intro c_2 k_2
    refine AW.iconst dX7_remainder_9 (by decide) ?_
    refine AW.goto (tgt := 16) dX7_remainder_10 rfl ?_
    exact k_2
  · intro c_2 k_2
    refine AW.iload_n dX7_remainder_5 rfl ?_
    refine' AW.if_gtJ 16 (tgt := 13) dX7_remainder_6 rfl _ _ _
    rotate_left 2
    · intro c_6 k_6
      refine AW.iload_n dX7_remainder_13 rfl ?_
      refine AW.iload_n dX7_remainder_14 rfl ?_
      refine AW.irem dX7_remainder_15 (by omega) ?_
      exact k_6
    · intro c_6 k_6
      refine AW.iconst dX7_remainder_9 (by decide) ?_
      refine AW.goto (tgt := 16) dX7_remainder_10 rfl ?_
      exact k_6
    exact k_2
  refine AW.iret dX7_remainder_16 rfl ?_
  refine fin1 k rfl ?_
  unfold crm
  (repeat' split) <;> first | rfl | omega
theorem kX7_combined {a b f : Int} (k : Q h (.inl (some (vi (zjoi a b f))))) : AC mX7_combined fX7_combined loX7_combined 0 0 h [vi a, vi b, vi f] Q := by
  refine AC.mk (by decide) (Nat.le_of_ble_eq_true rfl) ?_
  refine AW.iload_n dX7_combined_0 rfl ?_
  refine AW.iconst dX7_combined_1 (by decide) ?_
  refine AW.icmp_eq (tgt := 10) dX7_combined_2 rfl (fun c_2 => ?_) (fun c_2 => ?_)
  · refine AW.iconst dX7_combined_10 (by decide) ?_
    refine AW.goto (tgt := 25) dX7_combined_11 rfl ?_
    refine AW.iret dX7_combined_25 rfl ?_
    refine fin1 k rfl ?_
    unfold zjoi
    (repeat' split) <;> first | rfl | omega
  · refine AW.iload_n dX7_combined_5 rfl ?_
    refine AW.iconst dX7_combined_6 (by decide) ?_
    refine AW.icmp_ne (tgt := 14) dX7_combined_7 rfl (fun c_7 => ?_) (fun c_7 => ?_)
    · refine AW.sipush dX7_combined_14 sp_9999 (by decide) ?_
      refine AW.iload_n dX7_combined_17 rfl ?_
      refine AW.iload_n dX7_combined_18 rfl ?_
      refine AW.imul dX7_combined_19 ?_
      refine AW.iload_n dX7_combined_20 rfl ?_
      refine AW.iadd dX7_combined_21 ?_
      refine AW.mmin dX7_combined_22 lkX7_443 mn1 iniMath mn2 rfl rfl rfl ?_
      refine AW.iret dX7_combined_25 rfl ?_
      refine fin1 k rfl ?_
      unfold zjoi
      (repeat' split) <;> first | rfl | omega
    · refine AW.iconst dX7_combined_10 (by decide) ?_
      refine AW.goto (tgt := 25) dX7_combined_11 rfl ?_
      refine AW.iret dX7_combined_25 rfl ?_
      refine fin1 k rfl ?_
      unfold zjoi
      (repeat' split) <;> first | rfl | omega
end C1
